section
-- ===== PART A: goes FIRST, ahead of the names: the tables' words, and 'selects' of the private methods out of them =====
/-- a private method of a class that the tables say can be made, by its rows of tables_1 -/
def lw_okq (q : MethodName × Nat) : Prop := (q.1.cls ≠ "java/lang/invoke/MethodHandle" ∧ q.1.cls ≠ "java/lang/invoke/VarHandle") ∧ Cond.instantiable q.1.cls q.2 ∈ tables_1 ∧ Cond.privateMethod q.1 ∈ tables_1 ∧ Cond.instanceMethod q.1 ∈ tables_1
theorem lw_p0 : lw_okq (⟨"FormWright$Source", "readParts", "(II)Z"⟩, 8) := ⟨⟨by decide +kernel, by decide +kernel⟩, List.mem_of_getElem? (i := 28) (by decide +kernel), List.mem_of_getElem? (i := 134) (by decide +kernel), List.mem_of_getElem? (i := 135) (by decide +kernel)⟩
theorem lw_p1 : lw_okq (⟨"FormWright$Source", "readFactor", "(I)Z"⟩, 8) := ⟨⟨by decide +kernel, by decide +kernel⟩, List.mem_of_getElem? (i := 28) (by decide +kernel), List.mem_of_getElem? (i := 138) (by decide +kernel), List.mem_of_getElem? (i := 139) (by decide +kernel)⟩
theorem lw_p2 : lw_okq (⟨"FormWright$Source", "next", "()C"⟩, 8) := ⟨⟨by decide +kernel, by decide +kernel⟩, List.mem_of_getElem? (i := 28) (by decide +kernel), List.mem_of_getElem? (i := 142) (by decide +kernel), List.mem_of_getElem? (i := 143) (by decide +kernel)⟩
theorem lw_p3 : lw_okq (⟨"FormWright$Source", "readNumber", "()V"⟩, 8) := ⟨⟨by decide +kernel, by decide +kernel⟩, List.mem_of_getElem? (i := 28) (by decide +kernel), List.mem_of_getElem? (i := 149) (by decide +kernel), List.mem_of_getElem? (i := 150) (by decide +kernel)⟩
theorem lw_p4 : lw_okq (⟨"FormWright$Source", "writePlain", "(C)V"⟩, 8) := ⟨⟨by decide +kernel, by decide +kernel⟩, List.mem_of_getElem? (i := 28) (by decide +kernel), List.mem_of_getElem? (i := 153) (by decide +kernel), List.mem_of_getElem? (i := 154) (by decide +kernel)⟩
theorem lw_p5 : lw_okq (⟨"FormWright$Source", "addStep", "(I)V"⟩, 8) := ⟨⟨by decide +kernel, by decide +kernel⟩, List.mem_of_getElem? (i := 28) (by decide +kernel), List.mem_of_getElem? (i := 157) (by decide +kernel), List.mem_of_getElem? (i := 158) (by decide +kernel)⟩
theorem lw_p6 : lw_okq (⟨"FormWright$Source", "readLetter", "(C)V"⟩, 8) := ⟨⟨by decide +kernel, by decide +kernel⟩, List.mem_of_getElem? (i := 28) (by decide +kernel), List.mem_of_getElem? (i := 161) (by decide +kernel), List.mem_of_getElem? (i := 162) (by decide +kernel)⟩
theorem lw_p7 : lw_okq (⟨"FormWright$Source", "readNot", "(I)Z"⟩, 8) := ⟨⟨by decide +kernel, by decide +kernel⟩, List.mem_of_getElem? (i := 28) (by decide +kernel), List.mem_of_getElem? (i := 165) (by decide +kernel), List.mem_of_getElem? (i := 166) (by decide +kernel)⟩
theorem lw_p8 : lw_okq (⟨"FormWright$Source", "readBracket", "(I)Z"⟩, 8) := ⟨⟨by decide +kernel, by decide +kernel⟩, List.mem_of_getElem? (i := 28) (by decide +kernel), List.mem_of_getElem? (i := 169) (by decide +kernel), List.mem_of_getElem? (i := 170) (by decide +kernel)⟩
theorem lw_p9 : lw_okq (⟨"FormWright$Source", "openPlain", "(I)V"⟩, 8) := ⟨⟨by decide +kernel, by decide +kernel⟩, List.mem_of_getElem? (i := 28) (by decide +kernel), List.mem_of_getElem? (i := 176) (by decide +kernel), List.mem_of_getElem? (i := 177) (by decide +kernel)⟩
theorem lw_p10 : lw_okq (⟨"java/lang/Throwable", "fillInStackTrace", "(I)Ljava/lang/Throwable;"⟩, 6) := ⟨⟨by decide +kernel, by decide +kernel⟩, List.mem_of_getElem? (i := 242) (by decide +kernel), List.mem_of_getElem? (i := 240) (by decide +kernel), List.mem_of_getElem? (i := 241) (by decide +kernel)⟩
theorem lw_p11 : lw_okq (⟨"FormWright$Form", "lettersAt", "(I)I"⟩, 3) := ⟨⟨by decide +kernel, by decide +kernel⟩, List.mem_of_getElem? (i := 61) (by decide +kernel), List.mem_of_getElem? (i := 472) (by decide +kernel), List.mem_of_getElem? (i := 473) (by decide +kernel)⟩
theorem lw_p12 : lw_okq (⟨"FormWright$Form", "tellOrder", "()V"⟩, 3) := ⟨⟨by decide +kernel, by decide +kernel⟩, List.mem_of_getElem? (i := 61) (by decide +kernel), List.mem_of_getElem? (i := 530) (by decide +kernel), List.mem_of_getElem? (i := 531) (by decide +kernel)⟩
theorem lw_p13 : lw_okq (⟨"FormWright$Form", "lowestFree", "(I)I"⟩, 3) := ⟨⟨by decide +kernel, by decide +kernel⟩, List.mem_of_getElem? (i := 61) (by decide +kernel), List.mem_of_getElem? (i := 538) (by decide +kernel), List.mem_of_getElem? (i := 539) (by decide +kernel)⟩
theorem lw_p14 : lw_okq (⟨"FormWright$Answer", "stateByDoubts", "()I"⟩, 5) := ⟨⟨by decide +kernel, by decide +kernel⟩, List.mem_of_getElem? (i := 572) (by decide +kernel), List.mem_of_getElem? (i := 570) (by decide +kernel), List.mem_of_getElem? (i := 571) (by decide +kernel)⟩
theorem lw_p15 : lw_okq (⟨"FormWright", "requireVersion", "(I)LFormWright$Form;"⟩, 6) := ⟨⟨by decide +kernel, by decide +kernel⟩, List.mem_of_getElem? (i := 20) (by decide +kernel), List.mem_of_getElem? (i := 582) (by decide +kernel), List.mem_of_getElem? (i := 583) (by decide +kernel)⟩
def lw_privs_1 : List (MethodName × Nat) := [(⟨"FormWright$Source", "readParts", "(II)Z"⟩, 8), (⟨"FormWright$Source", "readFactor", "(I)Z"⟩, 8), (⟨"FormWright$Source", "next", "()C"⟩, 8), (⟨"FormWright$Source", "readNumber", "()V"⟩, 8), (⟨"FormWright$Source", "writePlain", "(C)V"⟩, 8), (⟨"FormWright$Source", "addStep", "(I)V"⟩, 8), (⟨"FormWright$Source", "readLetter", "(C)V"⟩, 8), (⟨"FormWright$Source", "readNot", "(I)Z"⟩, 8), (⟨"FormWright$Source", "readBracket", "(I)Z"⟩, 8), (⟨"FormWright$Source", "openPlain", "(I)V"⟩, 8), (⟨"java/lang/Throwable", "fillInStackTrace", "(I)Ljava/lang/Throwable;"⟩, 6), (⟨"FormWright$Form", "lettersAt", "(I)I"⟩, 3), (⟨"FormWright$Form", "tellOrder", "()V"⟩, 3), (⟨"FormWright$Form", "lowestFree", "(I)I"⟩, 3), (⟨"FormWright$Answer", "stateByDoubts", "()I"⟩, 5), (⟨"FormWright", "requireVersion", "(I)LFormWright$Form;"⟩, 6)]
theorem lw_r1 : ∀ q ∈ lw_privs_1, lw_okq q := List.forall_mem_cons.mpr ⟨lw_p0, List.forall_mem_cons.mpr ⟨lw_p1, List.forall_mem_cons.mpr ⟨lw_p2, List.forall_mem_cons.mpr ⟨lw_p3, List.forall_mem_cons.mpr ⟨lw_p4, List.forall_mem_cons.mpr ⟨lw_p5, List.forall_mem_cons.mpr ⟨lw_p6, List.forall_mem_cons.mpr ⟨lw_p7, List.forall_mem_cons.mpr ⟨lw_p8, List.forall_mem_cons.mpr ⟨lw_p9, List.forall_mem_cons.mpr ⟨lw_p10, List.forall_mem_cons.mpr ⟨lw_p11, List.forall_mem_cons.mpr ⟨lw_p12, List.forall_mem_cons.mpr ⟨lw_p13, List.forall_mem_cons.mpr ⟨lw_p14, List.forall_mem_cons.mpr ⟨lw_p15, fun _ h => absurd h List.not_mem_nil⟩⟩⟩⟩⟩⟩⟩⟩⟩⟩⟩⟩⟩⟩⟩⟩
theorem lw_p16 : lw_okq (⟨"FormWright", "requireAnswer", "(I)LFormWright$Answer;"⟩, 6) := ⟨⟨by decide +kernel, by decide +kernel⟩, List.mem_of_getElem? (i := 20) (by decide +kernel), List.mem_of_getElem? (i := 659) (by decide +kernel), List.mem_of_getElem? (i := 660) (by decide +kernel)⟩
theorem lw_p17 : lw_okq (⟨"FormWrightModel", "firstError", "()I"⟩, 26) := ⟨⟨by decide +kernel, by decide +kernel⟩, List.mem_of_getElem? (i := 813) (by decide +kernel), List.mem_of_getElem? (i := 915) (by decide +kernel), List.mem_of_getElem? (i := 916) (by decide +kernel)⟩
theorem lw_p18 : lw_okq (⟨"FormWrightModel", "opens", "(I)Z"⟩, 26) := ⟨⟨by decide +kernel, by decide +kernel⟩, List.mem_of_getElem? (i := 813) (by decide +kernel), List.mem_of_getElem? (i := 928) (by decide +kernel), List.mem_of_getElem? (i := 929) (by decide +kernel)⟩
theorem lw_p19 : lw_okq (⟨"FormWrightModel", "endFactor", "()V"⟩, 26) := ⟨⟨by decide +kernel, by decide +kernel⟩, List.mem_of_getElem? (i := 813) (by decide +kernel), List.mem_of_getElem? (i := 932) (by decide +kernel), List.mem_of_getElem? (i := 933) (by decide +kernel)⟩
theorem lw_p20 : lw_okq (⟨"FormWrightModel", "goesOn", "(I)Z"⟩, 26) := ⟨⟨by decide +kernel, by decide +kernel⟩, List.mem_of_getElem? (i := 813) (by decide +kernel), List.mem_of_getElem? (i := 936) (by decide +kernel), List.mem_of_getElem? (i := 937) (by decide +kernel)⟩
theorem lw_p21 : lw_okq (⟨"FormWrightModel", "layRow", "()V"⟩, 26) := ⟨⟨by decide +kernel, by decide +kernel⟩, List.mem_of_getElem? (i := 813) (by decide +kernel), List.mem_of_getElem? (i := 944) (by decide +kernel), List.mem_of_getElem? (i := 945) (by decide +kernel)⟩
theorem lw_p22 : lw_okq (⟨"FormWrightModel", "lay", "(I)V"⟩, 26) := ⟨⟨by decide +kernel, by decide +kernel⟩, List.mem_of_getElem? (i := 813) (by decide +kernel), List.mem_of_getElem? (i := 948) (by decide +kernel), List.mem_of_getElem? (i := 949) (by decide +kernel)⟩
theorem lw_p23 : lw_okq (⟨"FormWrightModel", "layBangs", "()V"⟩, 26) := ⟨⟨by decide +kernel, by decide +kernel⟩, List.mem_of_getElem? (i := 813) (by decide +kernel), List.mem_of_getElem? (i := 952) (by decide +kernel), List.mem_of_getElem? (i := 953) (by decide +kernel)⟩
theorem lw_p24 : lw_okq (⟨"FormWrightModel", "laySigns", "(I)V"⟩, 26) := ⟨⟨by decide +kernel, by decide +kernel⟩, List.mem_of_getElem? (i := 813) (by decide +kernel), List.mem_of_getElem? (i := 956) (by decide +kernel), List.mem_of_getElem? (i := 957) (by decide +kernel)⟩
theorem lw_p25 : lw_okq (⟨"FormWrightModel", "typeOf", "([III)I"⟩, 26) := ⟨⟨by decide +kernel, by decide +kernel⟩, List.mem_of_getElem? (i := 813) (by decide +kernel), List.mem_of_getElem? (i := 963) (by decide +kernel), List.mem_of_getElem? (i := 964) (by decide +kernel)⟩
theorem lw_p26 : lw_okq (⟨"FormWrightModel", "brokenMany", "()I"⟩, 26) := ⟨⟨by decide +kernel, by decide +kernel⟩, List.mem_of_getElem? (i := 813) (by decide +kernel), List.mem_of_getElem? (i := 977) (by decide +kernel), List.mem_of_getElem? (i := 978) (by decide +kernel)⟩
theorem lw_p27 : lw_okq (⟨"FormWrightModel", "breaks", "(I)Z"⟩, 26) := ⟨⟨by decide +kernel, by decide +kernel⟩, List.mem_of_getElem? (i := 813) (by decide +kernel), List.mem_of_getElem? (i := 981) (by decide +kernel), List.mem_of_getElem? (i := 982) (by decide +kernel)⟩
theorem lw_p28 : lw_okq (⟨"FormWrightModel", "dueType", "(I)I"⟩, 26) := ⟨⟨by decide +kernel, by decide +kernel⟩, List.mem_of_getElem? (i := 813) (by decide +kernel), List.mem_of_getElem? (i := 985) (by decide +kernel), List.mem_of_getElem? (i := 986) (by decide +kernel)⟩
theorem lw_p29 : lw_okq (⟨"FormWrightModel", "isReached", "(I)Z"⟩, 26) := ⟨⟨by decide +kernel, by decide +kernel⟩, List.mem_of_getElem? (i := 813) (by decide +kernel), List.mem_of_getElem? (i := 996) (by decide +kernel), List.mem_of_getElem? (i := 997) (by decide +kernel)⟩
theorem lw_p30 : lw_okq (⟨"FormWrightModel", "hasLetter", "(II)Z"⟩, 26) := ⟨⟨by decide +kernel, by decide +kernel⟩, List.mem_of_getElem? (i := 813) (by decide +kernel), List.mem_of_getElem? (i := 1000) (by decide +kernel), List.mem_of_getElem? (i := 1001) (by decide +kernel)⟩
theorem lw_p31 : lw_okq (⟨"FormWrightModel", "doubtFor", "(II)V"⟩, 26) := ⟨⟨by decide +kernel, by decide +kernel⟩, List.mem_of_getElem? (i := 813) (by decide +kernel), List.mem_of_getElem? (i := 1016) (by decide +kernel), List.mem_of_getElem? (i := 1017) (by decide +kernel)⟩
def lw_privs_2 : List (MethodName × Nat) := [(⟨"FormWright", "requireAnswer", "(I)LFormWright$Answer;"⟩, 6), (⟨"FormWrightModel", "firstError", "()I"⟩, 26), (⟨"FormWrightModel", "opens", "(I)Z"⟩, 26), (⟨"FormWrightModel", "endFactor", "()V"⟩, 26), (⟨"FormWrightModel", "goesOn", "(I)Z"⟩, 26), (⟨"FormWrightModel", "layRow", "()V"⟩, 26), (⟨"FormWrightModel", "lay", "(I)V"⟩, 26), (⟨"FormWrightModel", "layBangs", "()V"⟩, 26), (⟨"FormWrightModel", "laySigns", "(I)V"⟩, 26), (⟨"FormWrightModel", "typeOf", "([III)I"⟩, 26), (⟨"FormWrightModel", "brokenMany", "()I"⟩, 26), (⟨"FormWrightModel", "breaks", "(I)Z"⟩, 26), (⟨"FormWrightModel", "dueType", "(I)I"⟩, 26), (⟨"FormWrightModel", "isReached", "(I)Z"⟩, 26), (⟨"FormWrightModel", "hasLetter", "(II)Z"⟩, 26), (⟨"FormWrightModel", "doubtFor", "(II)V"⟩, 26)]
theorem lw_r2 : ∀ q ∈ lw_privs_2, lw_okq q := List.forall_mem_cons.mpr ⟨lw_p16, List.forall_mem_cons.mpr ⟨lw_p17, List.forall_mem_cons.mpr ⟨lw_p18, List.forall_mem_cons.mpr ⟨lw_p19, List.forall_mem_cons.mpr ⟨lw_p20, List.forall_mem_cons.mpr ⟨lw_p21, List.forall_mem_cons.mpr ⟨lw_p22, List.forall_mem_cons.mpr ⟨lw_p23, List.forall_mem_cons.mpr ⟨lw_p24, List.forall_mem_cons.mpr ⟨lw_p25, List.forall_mem_cons.mpr ⟨lw_p26, List.forall_mem_cons.mpr ⟨lw_p27, List.forall_mem_cons.mpr ⟨lw_p28, List.forall_mem_cons.mpr ⟨lw_p29, List.forall_mem_cons.mpr ⟨lw_p30, List.forall_mem_cons.mpr ⟨lw_p31, fun _ h => absurd h List.not_mem_nil⟩⟩⟩⟩⟩⟩⟩⟩⟩⟩⟩⟩⟩⟩⟩⟩
theorem lw_p32 : lw_okq (⟨"FormWrightModel", "typeAt", "(II)I"⟩, 26) := ⟨⟨by decide +kernel, by decide +kernel⟩, List.mem_of_getElem? (i := 813) (by decide +kernel), List.mem_of_getElem? (i := 1020) (by decide +kernel), List.mem_of_getElem? (i := 1021) (by decide +kernel)⟩
theorem lw_p33 : lw_okq (⟨"FormWrightModel", "areAlike", "(II)Z"⟩, 26) := ⟨⟨by decide +kernel, by decide +kernel⟩, List.mem_of_getElem? (i := 813) (by decide +kernel), List.mem_of_getElem? (i := 1024) (by decide +kernel), List.mem_of_getElem? (i := 1025) (by decide +kernel)⟩
theorem lw_p34 : lw_okq (⟨"FormWrightModel", "isVersion", "(I)Z"⟩, 26) := ⟨⟨by decide +kernel, by decide +kernel⟩, List.mem_of_getElem? (i := 813) (by decide +kernel), List.mem_of_getElem? (i := 1036) (by decide +kernel), List.mem_of_getElem? (i := 1037) (by decide +kernel)⟩
theorem lw_p35 : lw_okq (⟨"FormWrightModel", "layOrder", "(I)I"⟩, 26) := ⟨⟨by decide +kernel, by decide +kernel⟩, List.mem_of_getElem? (i := 813) (by decide +kernel), List.mem_of_getElem? (i := 1044) (by decide +kernel), List.mem_of_getElem? (i := 1045) (by decide +kernel)⟩
theorem lw_p36 : lw_okq (⟨"FormWrightModel", "isComputed", "(II)Z"⟩, 26) := ⟨⟨by decide +kernel, by decide +kernel⟩, List.mem_of_getElem? (i := 813) (by decide +kernel), List.mem_of_getElem? (i := 1048) (by decide +kernel), List.mem_of_getElem? (i := 1049) (by decide +kernel)⟩
theorem lw_p37 : lw_okq (⟨"FormWrightModel", "layPlain", "(I)V"⟩, 26) := ⟨⟨by decide +kernel, by decide +kernel⟩, List.mem_of_getElem? (i := 813) (by decide +kernel), List.mem_of_getElem? (i := 1056) (by decide +kernel), List.mem_of_getElem? (i := 1057) (by decide +kernel)⟩
theorem lw_p38 : lw_okq (⟨"FormWrightModel", "lays", "(I)V"⟩, 26) := ⟨⟨by decide +kernel, by decide +kernel⟩, List.mem_of_getElem? (i := 813) (by decide +kernel), List.mem_of_getElem? (i := 1060) (by decide +kernel), List.mem_of_getElem? (i := 1061) (by decide +kernel)⟩
theorem lw_p39 : lw_okq (⟨"FormWrightModel", "putNumber", "(I)V"⟩, 26) := ⟨⟨by decide +kernel, by decide +kernel⟩, List.mem_of_getElem? (i := 813) (by decide +kernel), List.mem_of_getElem? (i := 1064) (by decide +kernel), List.mem_of_getElem? (i := 1065) (by decide +kernel)⟩
theorem lw_p40 : lw_okq (⟨"FormWrightModel", "beginOf", "(I)I"⟩, 26) := ⟨⟨by decide +kernel, by decide +kernel⟩, List.mem_of_getElem? (i := 813) (by decide +kernel), List.mem_of_getElem? (i := 1068) (by decide +kernel), List.mem_of_getElem? (i := 1069) (by decide +kernel)⟩
theorem lw_p41 : lw_okq (⟨"FormWrightModel", "areOne", "(II)Z"⟩, 26) := ⟨⟨by decide +kernel, by decide +kernel⟩, List.mem_of_getElem? (i := 813) (by decide +kernel), List.mem_of_getElem? (i := 1080) (by decide +kernel), List.mem_of_getElem? (i := 1081) (by decide +kernel)⟩
theorem lw_p42 : lw_okq (⟨"FormWrightModel", "isAnswer", "(I)Z"⟩, 26) := ⟨⟨by decide +kernel, by decide +kernel⟩, List.mem_of_getElem? (i := 813) (by decide +kernel), List.mem_of_getElem? (i := 1084) (by decide +kernel), List.mem_of_getElem? (i := 1085) (by decide +kernel)⟩
theorem lw_p43 : lw_okq (⟨"FormWrightModel", "canPut", "(II)Z"⟩, 26) := ⟨⟨by decide +kernel, by decide +kernel⟩, List.mem_of_getElem? (i := 813) (by decide +kernel), List.mem_of_getElem? (i := 1088) (by decide +kernel), List.mem_of_getElem? (i := 1089) (by decide +kernel)⟩
theorem lw_p44 : lw_okq (⟨"FormWrightModel", "isRight", "(III)Z"⟩, 26) := ⟨⟨by decide +kernel, by decide +kernel⟩, List.mem_of_getElem? (i := 813) (by decide +kernel), List.mem_of_getElem? (i := 1092) (by decide +kernel), List.mem_of_getElem? (i := 1093) (by decide +kernel)⟩
theorem lw_p45 : lw_okq (⟨"FormWrightModel", "lacking", "(I)I"⟩, 26) := ⟨⟨by decide +kernel, by decide +kernel⟩, List.mem_of_getElem? (i := 813) (by decide +kernel), List.mem_of_getElem? (i := 1096) (by decide +kernel), List.mem_of_getElem? (i := 1097) (by decide +kernel)⟩
theorem lw_p46 : lw_okq (⟨"FormWrightModel", "judge", "(I)I"⟩, 26) := ⟨⟨by decide +kernel, by decide +kernel⟩, List.mem_of_getElem? (i := 813) (by decide +kernel), List.mem_of_getElem? (i := 1104) (by decide +kernel), List.mem_of_getElem? (i := 1105) (by decide +kernel)⟩
theorem lw_p47 : lw_okq (⟨"FormWrightModel", "compute", "(I)V"⟩, 26) := ⟨⟨by decide +kernel, by decide +kernel⟩, List.mem_of_getElem? (i := 813) (by decide +kernel), List.mem_of_getElem? (i := 1108) (by decide +kernel), List.mem_of_getElem? (i := 1109) (by decide +kernel)⟩
def lw_privs_3 : List (MethodName × Nat) := [(⟨"FormWrightModel", "typeAt", "(II)I"⟩, 26), (⟨"FormWrightModel", "areAlike", "(II)Z"⟩, 26), (⟨"FormWrightModel", "isVersion", "(I)Z"⟩, 26), (⟨"FormWrightModel", "layOrder", "(I)I"⟩, 26), (⟨"FormWrightModel", "isComputed", "(II)Z"⟩, 26), (⟨"FormWrightModel", "layPlain", "(I)V"⟩, 26), (⟨"FormWrightModel", "lays", "(I)V"⟩, 26), (⟨"FormWrightModel", "putNumber", "(I)V"⟩, 26), (⟨"FormWrightModel", "beginOf", "(I)I"⟩, 26), (⟨"FormWrightModel", "areOne", "(II)Z"⟩, 26), (⟨"FormWrightModel", "isAnswer", "(I)Z"⟩, 26), (⟨"FormWrightModel", "canPut", "(II)Z"⟩, 26), (⟨"FormWrightModel", "isRight", "(III)Z"⟩, 26), (⟨"FormWrightModel", "lacking", "(I)I"⟩, 26), (⟨"FormWrightModel", "judge", "(I)I"⟩, 26), (⟨"FormWrightModel", "compute", "(I)V"⟩, 26)]
theorem lw_r3 : ∀ q ∈ lw_privs_3, lw_okq q := List.forall_mem_cons.mpr ⟨lw_p32, List.forall_mem_cons.mpr ⟨lw_p33, List.forall_mem_cons.mpr ⟨lw_p34, List.forall_mem_cons.mpr ⟨lw_p35, List.forall_mem_cons.mpr ⟨lw_p36, List.forall_mem_cons.mpr ⟨lw_p37, List.forall_mem_cons.mpr ⟨lw_p38, List.forall_mem_cons.mpr ⟨lw_p39, List.forall_mem_cons.mpr ⟨lw_p40, List.forall_mem_cons.mpr ⟨lw_p41, List.forall_mem_cons.mpr ⟨lw_p42, List.forall_mem_cons.mpr ⟨lw_p43, List.forall_mem_cons.mpr ⟨lw_p44, List.forall_mem_cons.mpr ⟨lw_p45, List.forall_mem_cons.mpr ⟨lw_p46, List.forall_mem_cons.mpr ⟨lw_p47, fun _ h => absurd h List.not_mem_nil⟩⟩⟩⟩⟩⟩⟩⟩⟩⟩⟩⟩⟩⟩⟩⟩
theorem lw_p48 : lw_okq (⟨"FormWrightModel", "valueOf", "(II)I"⟩, 26) := ⟨⟨by decide +kernel, by decide +kernel⟩, List.mem_of_getElem? (i := 813) (by decide +kernel), List.mem_of_getElem? (i := 1112) (by decide +kernel), List.mem_of_getElem? (i := 1113) (by decide +kernel)⟩
theorem lw_p49 : lw_okq (⟨"FormWrightModel", "refusing", "(I)I"⟩, 26) := ⟨⟨by decide +kernel, by decide +kernel⟩, List.mem_of_getElem? (i := 813) (by decide +kernel), List.mem_of_getElem? (i := 1119) (by decide +kernel), List.mem_of_getElem? (i := 1120) (by decide +kernel)⟩
theorem lw_p50 : lw_okq (⟨"FormWrightModel", "asksFor", "(I)Z"⟩, 26) := ⟨⟨by decide +kernel, by decide +kernel⟩, List.mem_of_getElem? (i := 813) (by decide +kernel), List.mem_of_getElem? (i := 1131) (by decide +kernel), List.mem_of_getElem? (i := 1132) (by decide +kernel)⟩
def lw_privs_4 : List (MethodName × Nat) := [(⟨"FormWrightModel", "valueOf", "(II)I"⟩, 26), (⟨"FormWrightModel", "refusing", "(I)I"⟩, 26), (⟨"FormWrightModel", "asksFor", "(I)Z"⟩, 26)]
theorem lw_r4 : ∀ q ∈ lw_privs_4, lw_okq q := List.forall_mem_cons.mpr ⟨lw_p48, List.forall_mem_cons.mpr ⟨lw_p49, List.forall_mem_cons.mpr ⟨lw_p50, fun _ h => absurd h List.not_mem_nil⟩⟩⟩
def lw_privs : List (MethodName × Nat) := lw_privs_1 ++ (lw_privs_2 ++ (lw_privs_3 ++ (lw_privs_4)))
def lw_tbl : List Cond := k2_sels lw_privs ++ tables_1
theorem lw_privs_ok : ∀ q ∈ lw_privs, lw_okq q := by
  show ∀ q ∈ lw_privs_1 ++ (lw_privs_2 ++ (lw_privs_3 ++ (lw_privs_4))), lw_okq q
  exact List.forall_mem_append.mpr ⟨lw_r1, List.forall_mem_append.mpr ⟨lw_r2, List.forall_mem_append.mpr ⟨lw_r3, lw_r4⟩⟩⟩
end
section
/-! ===== BEGIN words of one list among another's, by their places ===== -/
theorem goodIn_r {big : List Cond} (ws : List Cond) (ps : List Nat) (hp : ws = ps.filterMap (fun i => big[i]?)) (h : ws.all goodWord = true) : GoodIn big ws := by
  intro w hw
  have h1 := List.all_eq_true.mp h w hw
  rw [hp] at hw
  obtain ⟨i, -, hi⟩ := List.mem_filterMap.mp hw
  have hm : w ∈ big := by first | exact List.mem_of_getElem? hi | exact List.getElem?_mem hi
  exact ⟨hm, good_of_word h1⟩
theorem goodIn_app {big a b : List Cond} (ha : GoodIn big a) (hb : GoodIn big b) : GoodIn big (a ++ b) := fun w h => (List.mem_append.mp h).elim (ha w) (hb w)
theorem goodIn_ca {big a b : List Cond} {c : Cond} (ha : GoodIn big (c :: a)) (hb : GoodIn big b) : GoodIn big (c :: (a ++ b)) := fun w h => (List.mem_cons.mp h).elim (fun e => ha w (List.mem_cons.mpr (Or.inl e))) (fun h => (List.mem_append.mp h).elim (fun h => ha w (List.mem_cons.mpr (Or.inr h))) (hb w))
theorem goodIn_sub {big ws : List Cond} (hm : ∀ w ∈ ws, w ∈ big) (h : ws.all goodWord = true) : GoodIn big ws := fun w hw => ⟨hm w hw, good_of_word (List.all_eq_true.mp h w hw)⟩
/-! ===== END ===== -/
/-! ===== BEGIN exceptions that leave a method, and their catching by the caller (launches without stack traces) ===== -/
section VXA
/-! The laws vx_back, vx_callV, vx_callS, vx_callSW, vx_throw0, vx_throwS follow proofs of the library, with one case more: JvmDerived/Free/Laws.lean (Back.of_free), Shelf42/LK1.lean (callV, callS), Shelf/KitTraced.lean (throwNew0V, throwNewS). -/
/-- where a method has thrown q: the class by its name, the cell, what was written, the world -/
def vx_T (XC : String → State → State → Prop) (st : State) (q : Addr) (t : State) (mc ms : Nat) (free : Addr → Prop) : Prop :=
  ∃ (E : String) (ce : Cell) (L : List Loc), XC E st t ∧ t.heap[q]? = some ce ∧ ce.vm = .none ∧ st.vm.findClass E = some ce.cls ∧ st.WarmedH t.vm ∧ st.sameButNew ({ t with vm := st.vm } : State) L mc ms ∧ ∀ z ∈ L, free z.base
def vx_Q (Qc : Array Value → State → Outcome → State → Prop) (XC : String → State → State → Prop) (mc ms : Nat) (free : Addr → Prop) : Array Value → State → Outcome → State → Prop := fun a st o t =>
  (Qc a st o t ∧ ∃ L, FrameEnd st o t L mc ms ∧ ∀ q ∈ L, free q.base) ∨ ∃ q, o = .threw q ∧ vx_T XC st q t mc ms free
/-- a callee that returns or throws -/
def vx_Met (l : Launch) (y : MethodName) (ws : List Cond) (rm : Room) (Pc : Array Value → State → Prop) (Qc : Array Value → State → Outcome → State → Prop) (XC : String → State → State → Prop) (mc ms : Nat) (free : Addr → Prop) : Prop :=
  MetFree l y (headSpec ws rm) Pc (fun _ _ _ _ _ => True) (vx_Q Qc XC mc ms free)
def vx_Post (XC : String → State → State → Prop) (mc ms : Nat) (free : Addr → Prop) : Pt → Array Value → Addr → Pt → Prop := fun A a q B =>
  ∃ (g : JFrame) (mk : MethodId) (t : State) (L : List Loc) (E : String) (ce : Cell), B.U.heap = t.heap ∧ B.U.vm = t.vm ∧ XC E (A.U.calling g mk a) t ∧ t.heap[q]? = some ce ∧ ce.vm = .none ∧ A.U.vm.findClass E = some ce.cls ∧ B.locs = A.locs ++ L ∧ (∀ z ∈ L, free z.base) ∧ B.cells = A.cells + mc ∧ B.slots = A.slots + ms
def vx_Back (l : Launch) (R : Room) (p : Program) (e : Env) (below : List Frame) (s : State) (sargs : Array Value) (y : MethodName) (len W9 : Nat)
    (Pre : Pt → Array Value → Prop) (Post : Pt → Array Value → Option Value → Pt → Prop) (PostX : Pt → Array Value → Addr → Pt → Prop) : Prop :=
  ∀ (m : MethodId) (meth : Method) (c : Code) (A : Pt) (g : JFrame) (ig : Instr) (mk : MethodId) (a : Array Value),
    Stand p l e R s m sargs below meth c A.U A.locs A.cells A.slots → g.method = m → g.locals.size = c.maxLocals → decode c.code g.pc = .ok (ig, len) →
    2 * g.monitorRoom + (g.stack.map fun v => v.category).sum ≤ W9 → A.U.methodNamed? y = some mk → Pre A a →
    (∃ (v : Option Value) (B : Pt), Stand p l e R s m sargs below meth c B.U B.locs B.cells B.slots ∧ Post A a v B ∧
      Steps p.tables e below (doInvoke e (A.U.setTop g) [] mk a).1 (B.U.setTop { g with pc := g.pc + len, stack := v.toList ++ g.stack })) ∨
    (∃ (q : Addr) (B : Pt), Stand p l e R s m sargs below meth c B.U B.locs B.cells B.slots ∧ PostX A a q B ∧
      Steps p.tables e below (doInvoke e (A.U.setTop g) [] mk a).1 ((B.U.setTop g).pushFrame (.throwing q)))
section Payer
variable {l : Launch} {R : Room} {p : Program} {e : Env} {below : List Frame} {s : State} {sargs : Array Value} {y : MethodName} {len W9 : Nat}
theorem vx_back {ws : List Cond} {rm : Room} {Pc : Array Value → State → Prop} {Qc : Array Value → State → Outcome → State → Prop} {XC : String → State → State → Prop} {mc ms : Nat} {free : Addr → Prop} {bytes : ByteArray} {maxL : Nat} {ret : Option FieldType}
    (hM : vx_Met l y ws rm Pc Qc XC mc ms free) (hblind : FrameBlind Pc) (hrc : rm.cells = mc) (hrs : rm.slots = ms)
    (hframes : rm.frames + 1 ≤ R.frames) (hlocals : W9 + (maxL + 11) + rm.locals ≤ R.locals)
    (hws : ∀ w ∈ ws, ∀ a' U, s.WarmedH U.vm → w.before a' U = true) (hcode : Cond.code y bytes maxL ret ∈ ws) (hinit : ∀ a' U, s.WarmedH U.vm → (Cond.initialized y.cls).before a' U = true) :
    vx_Back l R p e below s sargs y len W9 (PreOf R mc ms Pc) (PostOf Qc mc ms free) (vx_Post XC mc ms free) := by
  intro m meth c A g ig mk a X hg hsize hdg hW hn hp
  have h1 : (headSpec ws rm).pre.before a A.U = true := atoms_intro fun w hw => hws w hw _ _ X.warmed
  have h2 : (Cond.code y bytes maxL ret).before a A.U = true := hws _ hcode _ _ X.warmed
  have h3 : (Cond.initialized y.cls).before a A.U = true := hinit _ _ X.warmed
  have h4 : A.cells + (headSpec ws rm).room.cells ≤ R.cells := by rw [show (headSpec ws rm).room.cells = mc from hrc]; exact hp.1
  have h5 : A.slots + (headSpec ws rm).room.slots ≤ R.slots := by rw [show (headSpec ws rm).room.slots = ms from hrs]; exact hp.2.1
  have hPc : Pc a (A.U.calling g mk a) := hblind _ _ _ _ hp.2.2
  obtain ⟨U, Ls, c0, s0⟩ := A
  dsimp only [Pt.U, Pt.locs, Pt.cells, Pt.slots] at h1 h2 h3 h4 h5 X hn hPc ⊢
  obtain ⟨methY, cY, hmY, hcY, -, hlY, -, -, -, -⟩ := Cond.code_spec hn h2
  obtain ⟨kY, hkY, -⟩ := className_of_methodNamed hn
  have hinitY : kY.init = .initialized := Cond.initialized_spec (findClass_of_methodNamed hn) hkY h3
  have h : At U g.method c below := by rw [hg]; exact X.here
  have hlocals9 : W9 + (maxL + 11) + (headSpec ws rm).room.locals ≤ R.locals := hlocals
  have happ : (headSpec ws rm).appliesLoose y e.platform (U.calling g mk a) = true :=
    Spec.appliesLoose_calling (g := g) h hdg hn hkY hinitY
      (X.room_calling (g := g) (R' := (headSpec ws rm).room) hsize hmY hcY hframes (by rw [hlY]; omega) h4 h5) h1
  obtain ⟨mid, hmid⟩ := h.above
  have hfr : (U.setTop g).frames = (.java g :: mid) ++ below := by rw [State.frames_setTop' g h.top, hmid]; rfl
  obtain ⟨o, s₂, hsteps, -, hend, hq⟩ := Steps.callFree hM p X.admits X.cas X.clock (acts := []) hfr happ hPc trivial
  have hq' : vx_Q Qc XC mc ms free a (U.calling g mk a) o s₂ := hq
  rw [State.frames_setTop' g h.top] at hend
  obtain ⟨g₀, hg0⟩ := Option.isSome_iff_exists.mp h.top
  obtain ⟨r, hr⟩ := State.topJava?_eq_some.mp hg0
  have hr' : (({ U with heap := s₂.heap, slotsUsed := s₂.slotsUsed } : State).setVm s₂.vm).frames = .java g₀ :: r := hr
  rcases hq' with ⟨hqc, L, hfe, hL⟩ | ⟨q, rfl, E, ce, L, hx, hce, hcv, hcl, hW₂, hsm, hL⟩
  · obtain ⟨⟨v, rfl⟩, hW₂, e2, q2, q3, q4, q5, q6⟩ := id hfe
    have e3 : s₂ = ({ (U.calling g mk a).setFrames s₂.frames with heap := s₂.heap, slotsUsed := s₂.slotsUsed } : State).setVm s₂.vm := by
      have : s₂ = ({ s₂ with vm := (U.calling g mk a).vm } : State).setVm s₂.vm := rfl
      rw [e2] at this
      exact this
    obtain ⟨c₂, i₂, len₂, hc₂, hd₂, hf₂⟩ := hend
    have hW' : U.WarmedH s₂.vm := hW₂
    have hcc : c₂ = c := by
      have h1 : s₂.code? g.method = U.code? g.method := by
        rw [State.code?_eq, State.code?_eq, hW'.alike.method?]
      exact Option.some.inj (hc₂.symm.trans (h1.trans h.code))
    subst hcc
    have hlen : len₂ = len := by rw [hdg] at hd₂; cases hd₂; rfl
    subst hlen
    have hs₂ : s₂ = (({ U with heap := s₂.heap, slotsUsed := s₂.slotsUsed } : State).setVm s₂.vm).setTop { g with pc := g.pc + len₂, stack := v.toList ++ g.stack } := by
      refine e3.trans ?_
      rw [hf₂, State.calling_eq h.top, State.setFrames_setFrames, State.setTop_of_frames _ hr', hr]
      rfl
    have hsame : U.sameButNew ({ U with heap := s₂.heap, slotsUsed := s₂.slotsUsed } : State) L mc ms := by
      refine ⟨?_, q2, q3, q4, q5, q6⟩
      obtain ⟨t, ht, -⟩ := State.frames_cons hr
      show ({ U with heap := s₂.heap, slotsUsed := s₂.slotsUsed } : State) = { U.setFrames U.frames with heap := s₂.heap, slotsUsed := s₂.slotsUsed }
      rw [State.setFrames_self ht]
    subst hg
    refine Or.inl ⟨v, ⟨(({ U with heap := s₂.heap, slotsUsed := s₂.slotsUsed } : State).setVm s₂.vm), Ls ++ L, c0 + mc, s0 + ms⟩,
      ⟨X.admits, X.cas, X.clock, X.frames, X.room, X.hears, X.method, X.code, (X.here.setHeapUsed s₂.heap s₂.slotsUsed).setVm hW'.alike, X.tail, State.WarmedH.trans X.warmed hW', X.limits, X.bytes, X.same.trans (hsame.setVm s.vm)⟩,
      ⟨g, mk, s₂, L, rfl, rfl, hqc, rfl, hL, rfl, rfl⟩, ?_⟩
    show Steps p.tables e below _ ((({ U with heap := s₂.heap, slotsUsed := s₂.slotsUsed } : State).setVm s₂.vm).setTop { g with pc := g.pc + len₂, stack := v.toList ++ g.stack })
    rw [← hs₂]
    exact hsteps
  · obtain ⟨e2, q2, q3, q4, q5, q6⟩ := id hsm
    have e3 : s₂ = ({ (U.calling g mk a).setFrames s₂.frames with heap := s₂.heap, slotsUsed := s₂.slotsUsed } : State).setVm s₂.vm := by
      have : s₂ = ({ s₂ with vm := (U.calling g mk a).vm } : State).setVm s₂.vm := rfl
      rw [e2] at this
      exact this
    have hf₂ : s₂.frames = .throwing q :: .java g :: U.frames.tail := hend
    have hW' : U.WarmedH s₂.vm := hW₂
    have hs₂ : s₂ = ((({ U with heap := s₂.heap, slotsUsed := s₂.slotsUsed } : State).setVm s₂.vm).setTop g).pushFrame (.throwing q) := by
      refine e3.trans ?_
      rw [hf₂, State.calling_eq h.top, State.setFrames_setFrames, State.pushFrame, State.frames_setTop _ hr', State.setTop_of_frames _ hr', State.setFrames_setFrames, hr]
      rfl
    have hsame : U.sameButNew ({ U with heap := s₂.heap, slotsUsed := s₂.slotsUsed } : State) L mc ms := by
      refine ⟨?_, q2, q3, q4, q5, q6⟩
      obtain ⟨t, ht, -⟩ := State.frames_cons hr
      show ({ U with heap := s₂.heap, slotsUsed := s₂.slotsUsed } : State) = { U.setFrames U.frames with heap := s₂.heap, slotsUsed := s₂.slotsUsed }
      rw [State.setFrames_self ht]
    subst hg
    refine Or.inr ⟨q, ⟨(({ U with heap := s₂.heap, slotsUsed := s₂.slotsUsed } : State).setVm s₂.vm), Ls ++ L, c0 + mc, s0 + ms⟩,
      ⟨X.admits, X.cas, X.clock, X.frames, X.room, X.hears, X.method, X.code, (X.here.setHeapUsed s₂.heap s₂.slotsUsed).setVm hW'.alike, X.tail, State.WarmedH.trans X.warmed hW', X.limits, X.bytes, X.same.trans (hsame.setVm s.vm)⟩,
      ⟨g, mk, s₂, L, E, ce, rfl, rfl, hx, hce, hcv, hcl, rfl, hL, rfl, rfl⟩, ?_⟩
    show Steps p.tables e below _ (((({ U with heap := s₂.heap, slotsUsed := s₂.slotsUsed } : State).setVm s₂.vm).setTop g).pushFrame (.throwing q))
    rw [← hs₂]
    exact hsteps
end Payer
section Calls
variable {p : Program} {l : Launch} {e : Env} {R : Room} {s : State} {m : MethodId} {args : Array Value} {below : List Frame} {meth : Method} {c : Code} {T : State} {locs : List Loc} {cells slots : Nat}
theorem vx_callV (X : Stand p l e R s m args below meth c T locs cells slots) (hexec : p.tables.exec = Jvm.exec) {own C : String} {index : Nat} {y : MethodName} {bytes : ByteArray} {maxL : Nat} {ret : Option FieldType}
    (hown : s.vm.findClass own = some m.cls) (hlink : (Cond.methodLink own index y).before args s = true) (hinst : (Cond.instanceMethod y).before args s = true) (hsel : (Cond.selects C y y).before args s = true)
    (hcode : (Cond.code y bytes maxL ret).before args s = true) (hy : y.cls ≠ "java/lang/invoke/MethodHandle" ∧ y.cls ≠ "java/lang/invoke/VarHandle")
    {W9 : Nat} {Pre : Pt → Array Value → Prop} {Post : Pt → Array Value → Option Value → Pt → Prop} {PostX : Pt → Array Value → Addr → Pt → Prop} (hK : vx_Back l R p e below s args y 3 W9 Pre Post PostX)
    {b : Addr} {cellB : Cell} (hcell : T.heap[b]? = some cellB) (hobj : cellB.vm.isStatics = false) (hcls : s.vm.findClass C = some cellB.cls)
    {g : JFrame} (hg : g.method = m) (hsize : g.locals.size = c.maxLocals) {argsL rest : List Value} (hlen : ∀ sig, parseMethodDescriptor y.desc = some sig → argsL.length = sig.parameters.length)
    (hstack : g.stack = argsL.reverse ++ .ref b :: rest) (hW : 2 * g.monitorRoom + (rest.map fun v => v.category).sum ≤ W9) (hdg : decode c.code g.pc = .ok (.invokevirtual index, 3))
    (hpre : ∀ vm₁, s.WarmedH vm₁ → Pre ⟨T.setVm vm₁, locs, cells, slots⟩ (Value.ref b :: argsL).toArray) :
    (∃ (v : Option Value) (vm₁ : Vm) (B : Pt), s.WarmedH vm₁ ∧ Stand p l e R s m args below meth c B.U B.locs B.cells B.slots ∧ Post ⟨T.setVm vm₁, locs, cells, slots⟩ (Value.ref b :: argsL).toArray v B ∧
      ∀ target, Steps p.tables e below (B.U.setTop { g with pc := g.pc + 3, stack := v.toList ++ rest }) target → Steps p.tables e below (T.setTop g) target) ∨
    (∃ (q : Addr) (vm₁ : Vm) (B : Pt), s.WarmedH vm₁ ∧ Stand p l e R s m args below meth c B.U B.locs B.cells B.slots ∧ PostX ⟨T.setVm vm₁, locs, cells, slots⟩ (Value.ref b :: argsL).toArray q B ∧
      Steps p.tables e below (T.setTop g) ((B.U.setTop { g with stack := rest }).pushFrame (.throwing q))) := by
  obtain ⟨mk, methM, hnamed, hmethM, hstM, habM⟩ := Cond.instanceMethod_spec hinst
  obtain ⟨methM', cM, hmethM', -, -, -, -, -, -, hsigM⟩ := Cond.code_spec hnamed hcode
  cases hmethM.symm.trans hmethM'
  obtain ⟨c2, r2, m2, q1, q2, q3, q4, kP, hkP, hkPi⟩ := Cond.selects_spec hsel
  cases hcls.symm.trans q1
  cases (State.methodFound?_of_named hnamed hy).symm.trans q2
  cases hnamed.symm.trans q3
  have hselP : selectMethod e.platform s.vm cellB.cls mk = .method mk := by rw [Launch.admits_selectMethod X.admits]; exact q4
  obtain ⟨vm₁, X₁, hstep₁⟩ := X.invokevirtual hexec hown hlink hnamed hmethM hstM hkP hkPi hy (a := b) (cell := cellB) hcell
    (fun z h => by rw [h] at hobj; cases hobj) hselP hmethM habM hkP hkPi (g := g) hg (argsL := argsL) (rest := rest) (hlen _ hsigM) hstack hdg
  rcases hK m meth c ⟨T.setVm vm₁, locs, cells, slots⟩ { g with stack := rest } (.invokevirtual index) mk (Value.ref b :: argsL).toArray X₁ hg hsize hdg hW (X₁.named hnamed) (hpre vm₁ X₁.warmed) with ⟨v, B, X', hpost, hsteps⟩ | ⟨q, B, X', hpost, hsteps⟩
  · exact Or.inl ⟨v, vm₁, B, X₁.warmed, X', hpost, fun target h => hstep₁ _ fun acts => by rw [doInvoke_state]; exact hsteps.trans h⟩
  · exact Or.inr ⟨q, vm₁, B, X₁.warmed, X', hpost, hstep₁ _ fun acts => by rw [doInvoke_state]; exact hsteps⟩
theorem vx_callS (X : Stand p l e R s m args below meth c T locs cells slots) (hexec : p.tables.exec = Jvm.exec) {own : String} {index : Nat} {y : MethodName} {bytes : ByteArray} {maxL : Nat} {ret : Option FieldType}
    (hown : s.vm.findClass own = some m.cls) (hlink : (Cond.methodLink own index y).before args s = true) (hstat : (Cond.static y).before args s = true) (hinit : (Cond.initialized y.cls).before args s = true)
    (hcode : (Cond.code y bytes maxL ret).before args s = true) (hy : y.cls ≠ "java/lang/invoke/MethodHandle" ∧ y.cls ≠ "java/lang/invoke/VarHandle")
    {W9 : Nat} {Pre : Pt → Array Value → Prop} {Post : Pt → Array Value → Option Value → Pt → Prop} {PostX : Pt → Array Value → Addr → Pt → Prop} (hK : vx_Back l R p e below s args y 3 W9 Pre Post PostX)
    {g : JFrame} (hg : g.method = m) (hsize : g.locals.size = c.maxLocals) {argsL rest : List Value} (hlen : ∀ sig, parseMethodDescriptor y.desc = some sig → argsL.length = sig.parameters.length)
    (hstack : g.stack = argsL.reverse ++ rest) (hW : 2 * g.monitorRoom + (rest.map fun v => v.category).sum ≤ W9) (hdg : decode c.code g.pc = .ok (.invokestatic index, 3))
    (hpre : ∀ vm₁, s.WarmedH vm₁ → Pre ⟨T.setVm vm₁, locs, cells, slots⟩ argsL.toArray) :
    (∃ (v : Option Value) (vm₁ : Vm) (B : Pt), s.WarmedH vm₁ ∧ Stand p l e R s m args below meth c B.U B.locs B.cells B.slots ∧ Post ⟨T.setVm vm₁, locs, cells, slots⟩ argsL.toArray v B ∧
      ∀ target, Steps p.tables e below (B.U.setTop { g with pc := g.pc + 3, stack := v.toList ++ rest }) target → Steps p.tables e below (T.setTop g) target) ∨
    (∃ (q : Addr) (vm₁ : Vm) (B : Pt), s.WarmedH vm₁ ∧ Stand p l e R s m args below meth c B.U B.locs B.cells B.slots ∧ PostX ⟨T.setVm vm₁, locs, cells, slots⟩ argsL.toArray q B ∧
      Steps p.tables e below (T.setTop g) ((B.U.setTop { g with stack := rest }).pushFrame (.throwing q))) := by
  obtain ⟨mk, hnamed⟩ := Cond.code_named hcode
  obtain ⟨methM, cM, hmethM, -, -, -, -, -, -, hsigM⟩ := Cond.code_spec hnamed hcode
  have hstatic : methM.isStatic = true := Cond.static_spec hnamed hmethM hstat
  obtain ⟨kP, hkP, -⟩ := className_of_methodNamed hnamed
  have hinitP : kP.init = .initialized := Cond.initialized_spec (findClass_of_methodNamed hnamed) hkP hinit
  obtain ⟨vm₁, X₁, hstep₁⟩ := X.invokestatic hexec hown hlink hnamed hmethM hstatic hkP hinitP hy (g := g) hg (argsL := argsL) (rest := rest) (hlen _ hsigM) hstack hdg
  rcases hK m meth c ⟨T.setVm vm₁, locs, cells, slots⟩ { g with stack := rest } (.invokestatic index) mk argsL.toArray X₁ hg hsize hdg hW (X₁.named hnamed) (hpre vm₁ X₁.warmed) with ⟨v, B, X', hpost, hsteps⟩ | ⟨q, B, X', hpost, hsteps⟩
  · exact Or.inl ⟨v, vm₁, B, X₁.warmed, X', hpost, fun target h => hstep₁ _ fun acts => by rw [doInvoke_state]; exact hsteps.trans h⟩
  · exact Or.inr ⟨q, vm₁, B, X₁.warmed, X', hpost, hstep₁ _ fun acts => by rw [doInvoke_state]; exact hsteps⟩
end Calls
theorem vx_cls {s : State} {T : State} {vm₁ : Vm} {E : String} {k : ClassId} (hW : s.WarmedH vm₁) (h : (T.setVm vm₁).vm.findClass E = some k) : s.vm.findClass E = some k := by
  have h1 : vm₁.findClass E = some k := h
  rw [hW.alike.findClass] at h1
  exact h1
/-- the method's frame g, with q thrown over it -/
def vx_W (p : Program) (l : Launch) (e : Env) (R : Room) (s : State) (m : MethodId) (args : Array Value) (below : List Frame) (meth : Method) (c : Code) (H : Heap) (locs : List Loc) (cells slots : Nat) (Q : State → Prop) (g : JFrame) (q : Addr) : Prop :=
  ∀ T : State, T.heap = H → Stand p l e R s m args below meth c T locs cells slots → ∃ t, Steps p.tables e below ((T.setTop g).pushFrame (.throwing q)) t ∧ Q t
def vx_Run (p : Program) (l : Launch) (e : Env) (R : Room) (s : State) (m : MethodId) (args : Array Value) (below : List Frame) (meth : Method) (c : Code) (H : Heap) (locs : List Loc) (cells slots mc ms : Nat) (g : JFrame) (rest : List Value) (Qa : State → Outcome → State → Prop) (XC : String → State → State → Prop) (free : Addr → Prop) : Prop :=
  ∀ T : State, T.heap = H → Stand p l e R s m args below meth c T locs cells slots →
    (∃ (v : Option Value) (st₀ t T' : State) (L : List Loc), st₀.heap = H ∧ Stand p l e R s m args below meth c T' (locs ++ L) (cells + mc) (slots + ms) ∧ (∀ q ∈ L, free q.base) ∧ T'.heap = t.heap ∧ T'.vm = t.vm ∧ Qa st₀ (.returned v) t ∧
      Goes p e below T g T' { g with pc := g.pc + 3, stack := v.toList ++ rest }) ∨
    (∃ (q : Addr) (st₀ t T' : State) (L : List Loc) (E : String) (ce : Cell), st₀.heap = H ∧ Stand p l e R s m args below meth c T' (locs ++ L) (cells + mc) (slots + ms) ∧ (∀ z ∈ L, free z.base) ∧ T'.heap = t.heap ∧ T'.vm = t.vm ∧ XC E st₀ t ∧ t.heap[q]? = some ce ∧ ce.vm = .none ∧ s.vm.findClass E = some ce.cls ∧
      Steps p.tables e below (T.setTop g) ((T'.setTop { g with stack := rest }).pushFrame (.throwing q)))
def vx_X {S : Type} (px : S → Prop) (B : String → S → State → Prop) (A : Nat → Prop) : String → State → State → Prop := fun E st t => ∃ u : S, px u ∧ B E u t ∧ va_F A st t
section Runs
variable {p : Program} {l : Launch} {e : Env} {R : Room} {s : State} {m : MethodId} {args : Array Value} {below : List Frame} {meth : Method} {c : Code} {H : Heap} {locs : List Loc} {cells slots : Nat}
variable {y : MethodName} {bytes cc : ByteArray} {maxL nL mc ms n index : Nat} {ret : Option FieldType} {ws : List Cond} {rm : Room} {Pc : Array Value → State → Prop} {Qc : Array Value → State → Outcome → State → Prop} {XC : String → State → State → Prop} {free : Addr → Prop} {Ts : List Cond} {own C : String} {b : Addr} {As rest : List Value} {g : JFrame}
theorem vx_callBack (cb : CallB R s args own index y bytes maxL ret ws rm mc ms n) (hM : vx_Met l y ws rm Pc Qc XC mc ms free) (hbl : FrameBlind Pc) : vx_Back l R p e below s args y 3 8 (PreOf R mc ms Pc) (PostOf Qc mc ms free) (vx_Post XC mc ms free) := by
  obtain ⟨hrc, hrs, hfr, hlo, hws, hcw, -, hini, -⟩ := cb
  exact vx_back (bytes := bytes) (maxL := maxL) (ret := ret) hM hbl hrc hrs hfr hlo hws hcw (fun a' U hW => word_at hW (Or.inl (by first | rfl | simp [Cond.onTables, Cond.keeps, Cond.steady])) hini)
theorem vx_runV (S : CallFix p m c cc nL s args Ts own) (hM : vx_Met l y ws rm Pc Qc XC mc ms free) (cw : CallW R s args own C index y bytes maxL ret ws rm mc ms n) (hp : PreV s H C b Pc As)
    (hg : g.method = m) (hn : As.length = n) (hsize : g.locals.size = nL) (hstack : g.stack = As.reverse ++ .ref b :: rest) (hW : 2 * g.monitorRoom + (rest.map fun v => v.category).sum ≤ 8) (hdg : decode cc g.pc = .ok (.invokevirtual index, 3)) (hf : cells + mc ≤ R.cells ∧ slots + ms ≤ R.slots) :
    vx_Run p l e R s m args below meth c H locs cells slots mc ms g rest (Qc (Value.ref b :: As).toArray) XC free := by
  have hK : vx_Back l R p e below s args y 3 8 (PreOf R mc ms Pc) (PostOf Qc mc ms free) (vx_Post XC mc ms free) := vx_callBack cw.1 hM hp.1
  obtain ⟨⟨-, -, -, -, -, -, hcode, -, hy, hlen, hl⟩, hin, hse⟩ := cw
  obtain ⟨hx, hb, hml, ho, -⟩ := S
  obtain ⟨-, ⟨cellB, hcB, hoB, hclB⟩, hPc⟩ := hp
  intro T hT X
  rcases vx_callV X hx (C := C) (bytes := bytes) (maxL := maxL) (ret := ret) ho hl hin hse hcode hy hK (by rw [hT]; exact hcB) hoB hclB hg (hsize.trans hml.symm) (argsL := As) (rest := rest) (fun sig h => hn.trans (hlen sig h)) hstack hW (by rw [hb]; exact hdg)
    (fun vm₁ hW₁ => ⟨hf.1, hf.2, hPc (T.setVm vm₁) hT hW₁⟩) with ⟨v, vm₁, ⟨U', l2, c2, s2⟩, hW₁, X', ⟨g', mk, t, L, e1, e2, hq, h1, hL, h2, h3⟩, st⟩ | ⟨q, vm₁, ⟨U', l2, c2, s2⟩, hW₁, X', ⟨g', mk, t, L, E, ce, e1, e2, hq, hce, hcv, hcl, h1, hL, h2, h3⟩, st⟩
  · dsimp only [Pt.U, Pt.locs, Pt.cells, Pt.slots] at X' e1 e2 h1 h2 h3 st
    subst h1; subst h2; subst h3
    exact Or.inl ⟨v, (T.setVm vm₁).calling g' mk (Value.ref b :: As).toArray, t, U', L, hT, X', hL, e1, e2, hq, st⟩
  · dsimp only [Pt.U, Pt.locs, Pt.cells, Pt.slots] at X' e1 e2 h1 h2 h3 st hcl
    subst h1; subst h2; subst h3
    exact Or.inr ⟨q, (T.setVm vm₁).calling g' mk (Value.ref b :: As).toArray, t, U', L, E, ce, hT, X', hL, e1, e2, hq, hce, hcv, vx_cls hW₁ hcl, st⟩
theorem vx_runS (S : CallFix p m c cc nL s args Ts own) (hM : vx_Met l y ws rm Pc Qc XC mc ms free) (cw : CallB R s args own index y bytes maxL ret ws rm mc ms n ∧ (Cond.static y).before args s = true) (hp : PreS s H Pc As)
    (hg : g.method = m) (hn : As.length = n) (hsize : g.locals.size = nL) (hstack : g.stack = As.reverse ++ rest) (hW : 2 * g.monitorRoom + (rest.map fun v => v.category).sum ≤ 8) (hdg : decode cc g.pc = .ok (.invokestatic index, 3)) (hf : cells + mc ≤ R.cells ∧ slots + ms ≤ R.slots) :
    vx_Run p l e R s m args below meth c H locs cells slots mc ms g rest (Qc As.toArray) XC free := by
  have hK : vx_Back l R p e below s args y 3 8 (PreOf R mc ms Pc) (PostOf Qc mc ms free) (vx_Post XC mc ms free) := vx_callBack cw.1 hM hp.1
  obtain ⟨⟨-, -, -, -, -, -, hcode, hini, hy, hlen, hl⟩, hstt⟩ := cw
  obtain ⟨hx, hb, hml, ho, -⟩ := S
  intro T hT X
  rcases vx_callS X hx (bytes := bytes) (maxL := maxL) (ret := ret) ho hl hstt hini hcode hy hK hg (hsize.trans hml.symm) (argsL := As) (rest := rest) (fun sig h => hn.trans (hlen sig h)) hstack hW (by rw [hb]; exact hdg)
    (fun vm₁ hW₁ => ⟨hf.1, hf.2, hp.2 (T.setVm vm₁) hT hW₁⟩) with ⟨v, vm₁, ⟨U', l2, c2, s2⟩, hW₁, X', ⟨g', mk, t, L, e1, e2, hq, h1, hL, h2, h3⟩, st⟩ | ⟨q, vm₁, ⟨U', l2, c2, s2⟩, hW₁, X', ⟨g', mk, t, L, E, ce, e1, e2, hq, hce, hcv, hcl, h1, hL, h2, h3⟩, st⟩
  · dsimp only [Pt.U, Pt.locs, Pt.cells, Pt.slots] at X' e1 e2 h1 h2 h3 st
    subst h1; subst h2; subst h3
    exact Or.inl ⟨v, (T.setVm vm₁).calling g' mk As.toArray, t, U', L, hT, X', hL, e1, e2, hq, st⟩
  · dsimp only [Pt.U, Pt.locs, Pt.cells, Pt.slots] at X' e1 e2 h1 h2 h3 st hcl
    subst h1; subst h2; subst h3
    exact Or.inr ⟨q, (T.setVm vm₁).calling g' mk As.toArray, t, U', L, E, ce, hT, X', hL, e1, e2, hq, hce, hcv, vx_cls hW₁ hcl, st⟩
end Runs
section Rows
variable {p : Program} {l : Launch} {e : Env} {R : Room} {s : State} {m : MethodId} {args : Array Value} {below : List Frame} {meth : Method} {c : Code} {H : Heap} {locs : List Loc} {cells slots : Nat} {Q : State → Prop}
variable {mc ms : Nat} {free : Addr → Prop} {A0 A1 : Nat → Prop} {H0 : Heap} {a : Array Value} {pc : Nat} {ls : Array Slot} {st0 rest : List Value}
theorem vx_keep {st₀ t T' : State} {L : List Loc} (h0 : st₀.heap = H) (e1 : T'.heap = t.heap) (hS : va_S A0 H0 H locs) (hA : ∀ q, q < H.size → A1 q → A0 q) (hf : ∀ q, free q → A0 q) (hL : ∀ q ∈ L, free q.base) (hF : va_F A1 st₀ t) :
    H.size ≤ T'.heap.size ∧ (∀ q : Nat, q < H.size → ¬ A1 q → T'.heap[q]? = H[q]?) ∧ va_S A0 H0 T'.heap (locs ++ L) := by
  obtain ⟨hz, hk⟩ := hF
  rw [h0] at hz hk
  exact ⟨by rw [e1]; exact hz, fun q h1 h2 => by rw [e1]; exact hk q h1 h2,
    ⟨Nat.le_trans hS.1 (by rw [e1]; exact hz), fun q h1 h2 => by rw [e1, hk q (Nat.lt_of_lt_of_le h1 hS.1) (fun z => h2 (hA q (Nat.lt_of_lt_of_le h1 hS.1) z))]; exact hS.2.1 q h1 h2, fun q hq => by
      rcases List.mem_append.mp hq with h | h
      · exact hS.2.2 q h
      · exact hf _ (hL q h)⟩⟩
theorem vx_calli {S SX : Type} {post : Int32 → S → Prop} {px : SX → Prop} {B : S → State → Prop} {BX : String → SX → State → Prop} {AX : Nat → Prop} (hr : vx_Run p l e R s m args below meth c H locs cells slots mc ms (F0 m pc ls st0) rest (va_Qi post B A1 a) (vx_X px BX AX) free) (hS : va_S A0 H0 H locs) (hA : ∀ q, q < H.size → A1 q → A0 q) (hf : ∀ q, free q → A0 q) (hAX : ∀ q, q < H.size → AX q → A0 q)
    (kx : ∀ (E : String) (ce : Cell) (q9 : Addr) (u : SX) (t : State) (H1 : Heap) (locs1 : List Loc), t.heap = H1 → s.vm.Alike t.vm → px u → BX E u t → H.size ≤ H1.size → (∀ q : Nat, q < H.size → ¬ AX q → H1[q]? = H[q]?) → va_S A0 H0 H1 locs1 → H1[q9]? = some ce → ce.vm = .none → s.vm.findClass E = some ce.cls → vx_W p l e R s m args below meth c H1 locs1 (cells + mc) (slots + ms) Q (F0 m pc ls rest) q9)
    (kk : ∀ (r : Int32) (u : S) (t : State) (H1 : Heap) (locs1 : List Loc), t.heap = H1 → s.vm.Alike t.vm → post r u → B u t → H.size ≤ H1.size → (∀ q : Nat, q < H.size → ¬ A1 q → H1[q]? = H[q]?) → va_S A0 H0 H1 locs1 → W p l e R s m args below meth c H1 locs1 (cells + mc) (slots + ms) Q (F0 m (pc + 3) ls (.int r :: rest))) : W p l e R s m args below meth c H locs cells slots Q (F0 m pc ls st0) := by
  intro T hT X
  rcases hr T hT X with ⟨v, st₀, t, T', L, h0, X', hL, e1, e2, ⟨⟨r, u, hv, hp, hb⟩, hF⟩, st⟩ | ⟨q, st₀, t, T', L, E, ce, h0, X', hL, e1, e2, ⟨u, hp, hb, hF⟩, hce, hcv, hcl, st⟩
  · cases hv
    obtain ⟨k1, k2, k3⟩ := vx_keep h0 e1 hS hA hf hL hF
    obtain ⟨t2, a1, b1⟩ := kk r u t T'.heap (locs ++ L) e1.symm (by rw [← e2]; exact X'.warmed.alike) hp hb k1 k2 k3 T' rfl X'
    exact ⟨t2, st t2 a1, b1⟩
  · obtain ⟨k1, k2, k3⟩ := vx_keep h0 e1 hS hAX hf hL hF
    obtain ⟨t2, a1, b1⟩ := kx E ce q u t T'.heap (locs ++ L) e1.symm (by rw [← e2]; exact X'.warmed.alike) hp hb k1 k2 k3 (by rw [e1]; exact hce) hcv hcl T' rfl X'
    exact ⟨t2, st.trans a1, b1⟩
theorem vx_calll {S SX : Type} {post : Int64 → S → Prop} {px : SX → Prop} {B : S → State → Prop} {BX : String → SX → State → Prop} {AX : Nat → Prop} (hr : vx_Run p l e R s m args below meth c H locs cells slots mc ms (F0 m pc ls st0) rest (va_Ql post B A1 a) (vx_X px BX AX) free) (hS : va_S A0 H0 H locs) (hA : ∀ q, q < H.size → A1 q → A0 q) (hf : ∀ q, free q → A0 q) (hAX : ∀ q, q < H.size → AX q → A0 q)
    (kx : ∀ (E : String) (ce : Cell) (q9 : Addr) (u : SX) (t : State) (H1 : Heap) (locs1 : List Loc), t.heap = H1 → s.vm.Alike t.vm → px u → BX E u t → H.size ≤ H1.size → (∀ q : Nat, q < H.size → ¬ AX q → H1[q]? = H[q]?) → va_S A0 H0 H1 locs1 → H1[q9]? = some ce → ce.vm = .none → s.vm.findClass E = some ce.cls → vx_W p l e R s m args below meth c H1 locs1 (cells + mc) (slots + ms) Q (F0 m pc ls rest) q9)
    (kk : ∀ (r : Int64) (u : S) (t : State) (H1 : Heap) (locs1 : List Loc), t.heap = H1 → s.vm.Alike t.vm → post r u → B u t → H.size ≤ H1.size → (∀ q : Nat, q < H.size → ¬ A1 q → H1[q]? = H[q]?) → va_S A0 H0 H1 locs1 → W p l e R s m args below meth c H1 locs1 (cells + mc) (slots + ms) Q (F0 m (pc + 3) ls (.long r :: rest))) : W p l e R s m args below meth c H locs cells slots Q (F0 m pc ls st0) := by
  intro T hT X
  rcases hr T hT X with ⟨v, st₀, t, T', L, h0, X', hL, e1, e2, ⟨⟨r, u, hv, hp, hb⟩, hF⟩, st⟩ | ⟨q, st₀, t, T', L, E, ce, h0, X', hL, e1, e2, ⟨u, hp, hb, hF⟩, hce, hcv, hcl, st⟩
  · cases hv
    obtain ⟨k1, k2, k3⟩ := vx_keep h0 e1 hS hA hf hL hF
    obtain ⟨t2, a1, b1⟩ := kk r u t T'.heap (locs ++ L) e1.symm (by rw [← e2]; exact X'.warmed.alike) hp hb k1 k2 k3 T' rfl X'
    exact ⟨t2, st t2 a1, b1⟩
  · obtain ⟨k1, k2, k3⟩ := vx_keep h0 e1 hS hAX hf hL hF
    obtain ⟨t2, a1, b1⟩ := kx E ce q u t T'.heap (locs ++ L) e1.symm (by rw [← e2]; exact X'.warmed.alike) hp hb k1 k2 k3 (by rw [e1]; exact hce) hcv hcl T' rfl X'
    exact ⟨t2, st.trans a1, b1⟩
theorem vx_callf {S SX : Type} {post : UInt32 → S → Prop} {px : SX → Prop} {B : S → State → Prop} {BX : String → SX → State → Prop} {AX : Nat → Prop} (hr : vx_Run p l e R s m args below meth c H locs cells slots mc ms (F0 m pc ls st0) rest (va_Qf post B A1 a) (vx_X px BX AX) free) (hS : va_S A0 H0 H locs) (hA : ∀ q, q < H.size → A1 q → A0 q) (hf : ∀ q, free q → A0 q) (hAX : ∀ q, q < H.size → AX q → A0 q)
    (kx : ∀ (E : String) (ce : Cell) (q9 : Addr) (u : SX) (t : State) (H1 : Heap) (locs1 : List Loc), t.heap = H1 → s.vm.Alike t.vm → px u → BX E u t → H.size ≤ H1.size → (∀ q : Nat, q < H.size → ¬ AX q → H1[q]? = H[q]?) → va_S A0 H0 H1 locs1 → H1[q9]? = some ce → ce.vm = .none → s.vm.findClass E = some ce.cls → vx_W p l e R s m args below meth c H1 locs1 (cells + mc) (slots + ms) Q (F0 m pc ls rest) q9)
    (kk : ∀ (r : UInt32) (u : S) (t : State) (H1 : Heap) (locs1 : List Loc), t.heap = H1 → s.vm.Alike t.vm → post r u → B u t → H.size ≤ H1.size → (∀ q : Nat, q < H.size → ¬ A1 q → H1[q]? = H[q]?) → va_S A0 H0 H1 locs1 → W p l e R s m args below meth c H1 locs1 (cells + mc) (slots + ms) Q (F0 m (pc + 3) ls (.float r :: rest))) : W p l e R s m args below meth c H locs cells slots Q (F0 m pc ls st0) := by
  intro T hT X
  rcases hr T hT X with ⟨v, st₀, t, T', L, h0, X', hL, e1, e2, ⟨⟨r, u, hv, hp, hb⟩, hF⟩, st⟩ | ⟨q, st₀, t, T', L, E, ce, h0, X', hL, e1, e2, ⟨u, hp, hb, hF⟩, hce, hcv, hcl, st⟩
  · cases hv
    obtain ⟨k1, k2, k3⟩ := vx_keep h0 e1 hS hA hf hL hF
    obtain ⟨t2, a1, b1⟩ := kk r u t T'.heap (locs ++ L) e1.symm (by rw [← e2]; exact X'.warmed.alike) hp hb k1 k2 k3 T' rfl X'
    exact ⟨t2, st t2 a1, b1⟩
  · obtain ⟨k1, k2, k3⟩ := vx_keep h0 e1 hS hAX hf hL hF
    obtain ⟨t2, a1, b1⟩ := kx E ce q u t T'.heap (locs ++ L) e1.symm (by rw [← e2]; exact X'.warmed.alike) hp hb k1 k2 k3 (by rw [e1]; exact hce) hcv hcl T' rfl X'
    exact ⟨t2, st.trans a1, b1⟩
theorem vx_calld {S SX : Type} {post : UInt64 → S → Prop} {px : SX → Prop} {B : S → State → Prop} {BX : String → SX → State → Prop} {AX : Nat → Prop} (hr : vx_Run p l e R s m args below meth c H locs cells slots mc ms (F0 m pc ls st0) rest (va_Qd post B A1 a) (vx_X px BX AX) free) (hS : va_S A0 H0 H locs) (hA : ∀ q, q < H.size → A1 q → A0 q) (hf : ∀ q, free q → A0 q) (hAX : ∀ q, q < H.size → AX q → A0 q)
    (kx : ∀ (E : String) (ce : Cell) (q9 : Addr) (u : SX) (t : State) (H1 : Heap) (locs1 : List Loc), t.heap = H1 → s.vm.Alike t.vm → px u → BX E u t → H.size ≤ H1.size → (∀ q : Nat, q < H.size → ¬ AX q → H1[q]? = H[q]?) → va_S A0 H0 H1 locs1 → H1[q9]? = some ce → ce.vm = .none → s.vm.findClass E = some ce.cls → vx_W p l e R s m args below meth c H1 locs1 (cells + mc) (slots + ms) Q (F0 m pc ls rest) q9)
    (kk : ∀ (r : UInt64) (u : S) (t : State) (H1 : Heap) (locs1 : List Loc), t.heap = H1 → s.vm.Alike t.vm → post r u → B u t → H.size ≤ H1.size → (∀ q : Nat, q < H.size → ¬ A1 q → H1[q]? = H[q]?) → va_S A0 H0 H1 locs1 → W p l e R s m args below meth c H1 locs1 (cells + mc) (slots + ms) Q (F0 m (pc + 3) ls (.double r :: rest))) : W p l e R s m args below meth c H locs cells slots Q (F0 m pc ls st0) := by
  intro T hT X
  rcases hr T hT X with ⟨v, st₀, t, T', L, h0, X', hL, e1, e2, ⟨⟨r, u, hv, hp, hb⟩, hF⟩, st⟩ | ⟨q, st₀, t, T', L, E, ce, h0, X', hL, e1, e2, ⟨u, hp, hb, hF⟩, hce, hcv, hcl, st⟩
  · cases hv
    obtain ⟨k1, k2, k3⟩ := vx_keep h0 e1 hS hA hf hL hF
    obtain ⟨t2, a1, b1⟩ := kk r u t T'.heap (locs ++ L) e1.symm (by rw [← e2]; exact X'.warmed.alike) hp hb k1 k2 k3 T' rfl X'
    exact ⟨t2, st t2 a1, b1⟩
  · obtain ⟨k1, k2, k3⟩ := vx_keep h0 e1 hS hAX hf hL hF
    obtain ⟨t2, a1, b1⟩ := kx E ce q u t T'.heap (locs ++ L) e1.symm (by rw [← e2]; exact X'.warmed.alike) hp hb k1 k2 k3 (by rw [e1]; exact hce) hcv hcl T' rfl X'
    exact ⟨t2, st.trans a1, b1⟩
theorem vx_callv {S SX : Type} {post : S → Prop} {px : SX → Prop} {B : S → State → Prop} {BX : String → SX → State → Prop} {AX : Nat → Prop} (hr : vx_Run p l e R s m args below meth c H locs cells slots mc ms (F0 m pc ls st0) rest (va_Qv post B A1 a) (vx_X px BX AX) free) (hS : va_S A0 H0 H locs) (hA : ∀ q, q < H.size → A1 q → A0 q) (hf : ∀ q, free q → A0 q) (hAX : ∀ q, q < H.size → AX q → A0 q)
    (kx : ∀ (E : String) (ce : Cell) (q9 : Addr) (u : SX) (t : State) (H1 : Heap) (locs1 : List Loc), t.heap = H1 → s.vm.Alike t.vm → px u → BX E u t → H.size ≤ H1.size → (∀ q : Nat, q < H.size → ¬ AX q → H1[q]? = H[q]?) → va_S A0 H0 H1 locs1 → H1[q9]? = some ce → ce.vm = .none → s.vm.findClass E = some ce.cls → vx_W p l e R s m args below meth c H1 locs1 (cells + mc) (slots + ms) Q (F0 m pc ls rest) q9)
    (kk : ∀ (u : S) (t : State) (H1 : Heap) (locs1 : List Loc), t.heap = H1 → s.vm.Alike t.vm → post u → B u t → H.size ≤ H1.size → (∀ q : Nat, q < H.size → ¬ A1 q → H1[q]? = H[q]?) → va_S A0 H0 H1 locs1 → W p l e R s m args below meth c H1 locs1 (cells + mc) (slots + ms) Q (F0 m (pc + 3) ls (rest))) : W p l e R s m args below meth c H locs cells slots Q (F0 m pc ls st0) := by
  intro T hT X
  rcases hr T hT X with ⟨v, st₀, t, T', L, h0, X', hL, e1, e2, ⟨⟨u, hv, hp, hb⟩, hF⟩, st⟩ | ⟨q, st₀, t, T', L, E, ce, h0, X', hL, e1, e2, ⟨u, hp, hb, hF⟩, hce, hcv, hcl, st⟩
  · cases hv
    obtain ⟨k1, k2, k3⟩ := vx_keep h0 e1 hS hA hf hL hF
    obtain ⟨t2, a1, b1⟩ := kk u t T'.heap (locs ++ L) e1.symm (by rw [← e2]; exact X'.warmed.alike) hp hb k1 k2 k3 T' rfl X'
    exact ⟨t2, st t2 a1, b1⟩
  · obtain ⟨k1, k2, k3⟩ := vx_keep h0 e1 hS hAX hf hL hF
    obtain ⟨t2, a1, b1⟩ := kx E ce q u t T'.heap (locs ++ L) e1.symm (by rw [← e2]; exact X'.warmed.alike) hp hb k1 k2 k3 (by rw [e1]; exact hce) hcv hcl T' rfl X'
    exact ⟨t2, st.trans a1, b1⟩
/-- caught by the row x of this method's table; the rows ahead don't take it -/
theorem vx_catch {own name : String} {E : String} {ce : Cell} {q : Addr} (hown : s.vm.findClass own = some m.cls) (pre : List ExceptionTableEntry) (x : ExceptionTableEntry) (suf : List ExceptionTableEntry) (hsplit : c.exceptionTable.toList = pre ++ x :: suf)
    (hpass : ∀ z ∈ pre, covers z pc = false ∨ (z.catchType ≠ 0 ∧ ∃ nm : String, (Cond.classLink own z.catchType nm).before args s = true ∧ va_Nc E nm s)) (hx : covers x pc = true) (h0 : x.catchType ≠ 0)
    (hlink : (Cond.classLink own x.catchType name).before args s = true) (hcast : (Cond.castable E name).before args s = true) (hcell : H[q]? = some ce) (hv : ce.vm = .none) (hcl : s.vm.findClass E = some ce.cls)
    (kk : W p l e R s m args below meth c H locs cells slots Q (F0 m x.handlerPc ls [.ref q])) : vx_W p l e R s m args below meth c H locs cells slots Q (F0 m pc ls rest) q := by
  intro T hT X
  have hpl : e.platform.magicAccessors = ({} : Platform).magicAccessors := by rw [X.admits.platform]
  obtain ⟨c3, c4, hc3, hc4, hasg⟩ := Cond.castable_spec hcast
  cases Option.some.inj (hc3.symm.trans hcl)
  obtain ⟨c5, hc5, hcl5⟩ := Cond.classLink_spec hown hlink e.platform hpl
  cases Option.some.inj (hc4.symm.trans hc5)
  obtain ⟨vm', X', st⟩ := X.thenCaughtThrough q (g := F0 m pc ls rest) rfl (Steps.refl _) (by rw [hT]; exact hcell) (by rw [hv]; rfl) (by obtain ⟨k9, h9, -⟩ := Vm.findClass_spec hcl; exact ⟨k9, h9⟩) pre x suf hsplit
    (fun z hz => by
      rcases hpass z hz with h | ⟨hz0, nm, hl1, hn1⟩
      · exact Or.inl h
      · obtain ⟨c6, hc6, hcl6⟩ := Cond.classLink_spec hown hl1 e.platform hpl
        obtain ⟨a8, b8, h1, h2, h3⟩ := hn1
        cases Option.some.inj (h1.symm.trans hcl)
        cases Option.some.inj (h2.symm.trans hc6)
        exact Or.inr ⟨hz0, _, hcl6, h3⟩) hx (Or.inr ⟨h0, c4, hcl5, hasg⟩)
  obtain ⟨t, a1, b1⟩ := kk (T.setVm vm') hT X'
  exact ⟨t, st.trans a1, b1⟩
end Rows
section Ends
variable {p : Program} {l : Launch} {e : Env} {R : Room} {s : State} {m : MethodId} {args : Array Value} {below : List Frame} {meth : Method} {c : Code} {H : Heap} {locs : List Loc} {cells slots : Nat} {Q : State → Prop}
variable {mc ms : Nat} {free : Addr → Prop} {A0 A1 : Nat → Prop} {H0 : Heap} {a : Array Value} {ls : Array Slot} {st0 rest : List Value}
variable {Qc : Array Value → State → Outcome → State → Prop} {XC : String → State → State → Prop}
/-- what a body that may throw owes at its end -/
def vx_MQ (below : List Frame) (Qc : Array Value → State → Outcome → State → Prop) (XC : String → State → State → Prop) (a : Array Value) (s : State) (mc ms : Nat) (free : Addr → Prop) : State → Prop := fun t =>
  ∃ o, t.status = .running ∧ Ended t below o ∧ vx_Q Qc XC mc ms free a s o t
theorem vx_ret {g : JFrame} {mc ms : Nat} (k : W p l e R s m args below meth c H locs cells slots (MQ below Qc args s mc ms free) g) : W p l e R s m args below meth c H locs cells slots (vx_MQ below Qc XC args s mc ms free) g := by
  intro T hT X
  obtain ⟨t, a1, o, b1, b2, b3, b4⟩ := k T hT X
  exact ⟨t, a1, o, b1, b2, Or.inl ⟨b3, b4⟩⟩
/-- not caught here: it goes on to the caller -/
theorem vx_widen {g : JFrame} {q : Addr} {k n : Nat} (h1 : cells ≤ k) (h2 : slots ≤ n) (kk : vx_W p l e R s m args below meth c H locs k n Q g q) : vx_W p l e R s m args below meth c H locs cells slots Q g q := fun T hT X => kk T hT (stand_widen X h1 h2)
theorem vx_out {pc : Nat} {E : String} {ce : Cell} {q : Addr} {mc ms : Nat} (hout : ∀ x ∈ c.exceptionTable.toList, covers x pc = false) (hlocks : meth.locks = false) (hcell : H[q]? = some ce) (hv : ce.vm = .none) (hcl : s.vm.findClass E = some ce.cls)
    (hx : ∀ t : State, t.heap = H → s.vm.Alike t.vm → XC E s t) (hf : ∀ z ∈ locs, free z.base) (hc : cells ≤ mc) (hs : slots ≤ ms) :
    vx_W p l e R s m args below meth c H locs cells slots (vx_MQ below Qc XC args s mc ms free) (F0 m pc ls rest) q := by
  intro T hT X
  obtain ⟨st1, hrun, hend, hW, hsm⟩ := X.leaveThrown q (g := F0 m pc ls rest) rfl rfl rfl hout hlocks
  have hcell9 : (T.setFrames (.throwing q :: below)).heap[q]? = some ce := by
    show T.heap[q]? = some ce
    rw [hT]; exact hcell
  exact ⟨_, st1, .threw q, hrun, hend, Or.inr ⟨q, rfl, E, ce, locs, hx _ hT hW.alike, hcell9, hv, hcl, hW, hsm.mono hc hs, hf⟩⟩
theorem vx_frame {U : State} {k n : Nat} (h : s.sameButNew ({ U with vm := s.vm } : State) locs k n) : s.heap.size ≤ U.heap.size ∧ ∀ q : Nat, q < s.heap.size → (∀ z ∈ locs, z.base ≠ q) → U.heap[q]? = s.heap[q]? := by
  obtain ⟨-, h2, -, -, -, h6⟩ := h
  refine ⟨h2, fun q hq hz => ?_⟩
  obtain ⟨c9, e1, e2, e3, e4⟩ := h6 q _ (Array.getElem?_eq_getElem hq)
  have hs : c9.slots = (s.heap[q]).slots := Array.ext_getElem? fun i => e4 i fun hm => hz _ hm rfl
  have h9 : c9 = s.heap[q] := by
    rw [hs] at e2
    exact e2
  have e5 : U.heap[q]? = some c9 := e1
  rw [e5, h9, Array.getElem?_eq_getElem hq]
/-- the words of a throw but the four that speak of the heap -/
def vx_no (w : Cond) : Bool := decide (w ≠ .isRef (.static Bundle.tN "UNASSIGNED_STACK" Bundle.steD)) && decide (w ≠ .isRef (.static Bundle.tN "SUPPRESSED_SENTINEL" Bundle.listD)) && decide (w ≠ .laysStatic Bundle.tN "UNASSIGNED_STACK" Bundle.steD) && decide (w ≠ .laysStatic Bundle.tN "SUPPRESSED_SENTINEL" Bundle.listD)
def vx_at0 (own : String) (ic : Nat) (X : String) (names : List String) : List Cond := (Bundle.ownAtoms0 own ic X names).filter vx_no
def vx_atS (own : String) (ic : Nat) (X : String) (names : List String) : List Cond := (Bundle.ownAtoms own ic X names).filter vx_no
/-- a word that the tables alone decide, or a good one -/
def vx_ot (w : Cond) : Bool := w.onTables || goodWord w
theorem vx_ot_at {args a' : Array Value} {s U : State} {w : Cond} (hW : s.WarmedH U.vm) (hvm : s.vm = U.vm) (hg : vx_ot w = true) (h : w.before args s = true) : w.before a' U = true := by
  simp only [vx_ot, Bool.or_eq_true] at hg
  rcases hg with hg | hg
  · exact va_tabs hg hvm h
  · exact word_at hW (good_of_word hg) h
/-- a list's words: the good ones out of the method's own list, the others by premises of their own -/
theorem vx_hat {args : Array Value} {s : State} {L B : List Cond} (h1 : ∀ w ∈ L.filter goodWord, w.before args s = true) (h2 : ∀ w ∈ L.filter (fun w => !goodWord w), w ∈ B) (h3 : ∀ w ∈ B, w.before args s = true) : ∀ w ∈ L, w.before args s = true := by
  intro w hw
  by_cases g : goodWord w = true
  · exact h1 w (List.mem_filter.mpr ⟨hw, g⟩)
  · refine h3 w (h2 w (List.mem_filter.mpr ⟨hw, ?_⟩))
    show (!goodWord w) = true
    cases hgw : goodWord w
    · rfl
    · exact absurd hgw g
theorem vx_c {args : Array Value} {s : State} {w : Cond} {B : List Cond} (h : w.before args s = true) (t : ∀ w ∈ B, w.before args s = true) : ∀ w' ∈ w :: B, w'.before args s = true := fun w' h' => (List.mem_cons.mp h').elim (fun e => by rw [e]; exact h) (t w')
theorem vx_n {args : Array Value} {s : State} : ∀ w ∈ ([] : List Cond), w.before args s = true := fun _ h => nomatch h
theorem vx_own {args : Array Value} {s : State} {L : List Cond} (h1 : ∀ w ∈ L.filter vx_no, w.before args s = true)
    (hU : (Cond.isRef (.static Bundle.tN "UNASSIGNED_STACK" Bundle.steD)).before args s = true) (hN : (Cond.isRef (.static Bundle.tN "SUPPRESSED_SENTINEL" Bundle.listD)).before args s = true)
    (lU : (Cond.laysStatic Bundle.tN "UNASSIGNED_STACK" Bundle.steD).before args s = true) (lN : (Cond.laysStatic Bundle.tN "SUPPRESSED_SENTINEL" Bundle.listD).before args s = true) : ∀ w ∈ L, w.before args s = true := by
  intro w hw
  by_cases e1 : w = .isRef (.static Bundle.tN "UNASSIGNED_STACK" Bundle.steD)
  · rw [e1]; exact hU
  · by_cases e2 : w = .isRef (.static Bundle.tN "SUPPRESSED_SENTINEL" Bundle.listD)
    · rw [e2]; exact hN
    · by_cases e3 : w = .laysStatic Bundle.tN "UNASSIGNED_STACK" Bundle.steD
      · rw [e3]; exact lU
      · by_cases e4 : w = .laysStatic Bundle.tN "SUPPRESSED_SENTINEL" Bundle.listD
        · rw [e4]; exact lN
        · exact h1 w (List.mem_filter.mpr ⟨hw, by unfold vx_no; rw [decide_eq_true e1, decide_eq_true e2, decide_eq_true e3, decide_eq_true e4]; rfl⟩)
/-- where a static field lies, its class's statics cell in H -/
def vx_L (C n d : String) (A : Nat → Prop) (U : State) (H : Heap) : Prop := ∃ (c : ClassId) (k : Class) (i : Nat) (f : Field) (a : Nat) (cell : Cell), U.vm.findClass C = some c ∧ U.fieldFound? C n d = some (c, k, i, f) ∧ f.isStatic = true ∧ k.statics = some a ∧ H[a]? = some cell ∧ cell.vm.isStatics = true ∧ cell.cls = c ∧ f.slot < cell.slots.size ∧ k.staticTypes[f.slot]? = some f.type ∧ ¬ A a
theorem vx_L.moved {C n d : String} {A : Nat → Prop} {u U : State} {H : Heap} (hvm : u.vm.Alike U.vm) (h : vx_L C n d A u H) : vx_L C n d A U H := by
  obtain ⟨c, k, i, f, a, cell, h1, h2, h3, h4, h5, h6, h7, h8, h9, h10⟩ := h
  obtain ⟨k', hi', he⟩ := State.fieldFound?_setVm hvm h2
  exact ⟨c, k', i, f, a, cell, by rw [hvm.findClass]; exact h1, hi', h3, by rw [he]; exact h4, h5, h6, h7, h8, by rw [he]; exact h9, h10⟩
theorem vx_L.kept {C n d : String} {A : Nat → Prop} {U : State} {H H1 : Heap} (h : vx_L C n d A U H) (hq : ∀ a : Nat, a < H.size → ¬ A a → H1[a]? = H[a]?) : vx_L C n d A U H1 := by
  obtain ⟨c, k, i, f, a, cell, h1, h2, h3, h4, h5, h6, h7, h8, h9, h10⟩ := h
  exact ⟨c, k, i, f, a, cell, h1, h2, h3, h4, by rw [hq a (Array.getElem?_eq_some_iff.mp h5).1 h10]; exact h5, h6, h7, h8, h9, h10⟩
theorem vx_L.narrow {C n d : String} {A B : Nat → Prop} {U : State} {H : Heap} (h : vx_L C n d A U H) (hAB : ∀ q, B q → A q) : vx_L C n d B U H := by
  obtain ⟨c, k, i, f, a, cell, h1, h2, h3, h4, h5, h6, h7, h8, h9, h10⟩ := h
  exact ⟨c, k, i, f, a, cell, h1, h2, h3, h4, h5, h6, h7, h8, h9, fun z => h10 (hAB _ z)⟩
theorem vx_L.word {C n d : String} {A : Nat → Prop} {s : State} {args : Array Value} (h : vx_L C n d A s s.heap) : (Cond.laysStatic C n d).before args s = true := by
  obtain ⟨c, k, i, f, a, cell, h1, h2, h3, h4, h5, h6, h7, h8, h9, -⟩ := h
  show (Cond.laysStatic C n d).holds args s none s [] = true
  exact Cond.laysStatic_of h1 h2 h3 h4 h5 h6 h7 h8 h9
/-- .. and what it holds: null or some reference -/
def vx_Zq (C n d : String) (A : Nat → Prop) (U : State) (H : Heap) : Prop := va_Zq C n d A U H ∧ vx_L C n d A U H
theorem vx_Zq.moved {C n d : String} {A : Nat → Prop} {u U : State} {H : Heap} (hvm : u.vm.Alike U.vm) (h : vx_Zq C n d A u H) : vx_Zq C n d A U H := ⟨va_Zq.moved hvm h.1, vx_L.moved hvm h.2⟩
theorem vx_Zq.kept {C n d : String} {A : Nat → Prop} {U : State} {H H1 : Heap} (h : vx_Zq C n d A U H) (hq : ∀ a : Nat, a < H.size → ¬ A a → H1[a]? = H[a]?) : vx_Zq C n d A U H1 := ⟨va_Zq.kept h.1 hq, vx_L.kept h.2 hq⟩
theorem vx_Zq.narrow {C n d : String} {A B : Nat → Prop} {U : State} {H : Heap} (h : vx_Zq C n d A U H) (hAB : ∀ q, B q → A q) : vx_Zq C n d B U H := ⟨va_Zq.narrow h.1 hAB, vx_L.narrow h.2 hAB⟩
theorem vx_Zqof {args : Array Value} {s : State} {C n d : String} {A : Nat → Prop} (hl : (Cond.laysStatic C n d).before args s = true) (hini : (Cond.initialized C).before args s = true) (h : (Cond.isRef (.static C n d)).before args s = true) (hA : ∀ a : Nat, a < s.heap.size → ¬ A a) : vx_Zq C n d A s s.heap := by
  refine ⟨va_Zqof hl hini h hA, ?_⟩
  obtain ⟨c, k, i, f, a, cell, h1, h2, h3, h4, h5, h6, h7, h8, h9⟩ := Cond.laysStatic_spec hl
  exact ⟨c, k, i, f, a, cell, h1, h2, h3, h4, h5, h6, h7, h8, h9, hA a (Array.getElem?_eq_some_iff.mp h5).1⟩
theorem vx_isRef {C n d : String} {v : Value} {A : Nat → Prop} {s : State} {args : Array Value} (h : va_Z C n d v A s s.heap) (hv : v.isRef = true) : (Cond.isRef (.static C n d)).before args s = true := by
  obtain ⟨cf, kf, fi, f, a, cell, h1, h2, h3, h4, h5, h6, h7, -⟩ := h
  have he : (Term.static C n d).eval args s none [] s = some v := by
    simp [Term.eval, State.fieldNamed?, h1, h2, h4, h5, h6, h7]
  simp only [Cond.before, Cond.holds, Cond.value, he]
  cases v <;> simp_all [Value.isRef]
theorem vx_isRefq {C n d : String} {A : Nat → Prop} {s : State} {args : Array Value} (h : va_Zq C n d A s s.heap) : (Cond.isRef (.static C n d)).before args s = true := by
  rcases h with h | ⟨t, h⟩
  · exact vx_isRef h rfl
  · exact vx_isRef h rfl
/-- the same frame, seen from here: as if the method were called anew in this heap -/
theorem vx_rebase {T : State} (X : Stand p l e R s m args below meth c T locs cells slots) {R' : Room} (hf : R'.frames ≤ R.frames) (hl : R'.locals ≤ R.locals) (hc : cells + R'.cells ≤ R.cells) (hs : slots + R'.slots ≤ R.slots) :
    Stand p l e R' ((T.setVm s.vm).setFrames (.invoking m args :: below)) m args below meth c T [] 0 0 := by
  have htop : (T.setVm s.vm).topJava?.isSome := X.here.top
  have hF : ((T.setVm s.vm).setFrames (.invoking m args :: below)).frames = .invoking m args :: below := State.frames_setFrames _ (State.cur_lt_of_top htop)
  obtain ⟨g₀, hg0⟩ := Option.isSome_iff_exists.mp htop
  obtain ⟨r, hr⟩ := State.topJava?_eq_some.mp hg0
  have hl9 : e.platform.stackLimits (T.setVm s.vm).me = e.platform.stackLimits s.me := X.limits
  have hb9 : (T.setVm s.vm).me.stackBytes = s.me.stackBytes := X.bytes
  refine ⟨X.admits, X.cas, X.clock, hF, ?_, X.hears, X.method, X.code, X.here, X.tail, X.warmed, ?_, ?_, ?_⟩
  · have h := X.room
    have hU : ((T.setVm s.vm).setFrames (.invoking m args :: below)).localsInUse = s.localsInUse := by
      rw [State.localsInUse_invoking hF (meth := meth) (c := c) X.method X.code, State.localsInUse_invoking X.frames X.method X.code]
    simp only [State.hasRoom, Bool.and_eq_true, decide_eq_true_eq] at h ⊢
    obtain ⟨⟨⟨⟨h1, h2, h3, h4, h5, h6⟩, h7⟩, h8⟩, h9⟩ := h
    rw [X.frames, List.length_cons] at h2 h3
    have q1 := X.heapSize
    have q2 := X.used
    simp only [hF, hU, List.length_cons, State.stackLimits_setFrames, State.stackBytes_setFrames, hl9, hb9]
    refine ⟨⟨⟨⟨by omega, by omega, by omega, by omega, by omega, h6⟩, ?_⟩, ?_⟩, X.book⟩
    · show T.heap.size + R'.cells ≤ e.platform.maxCells
      omega
    · show T.slotsUsed + R'.slots ≤ e.platform.maxSlots
      omega
  · rw [State.stackLimits_setFrames]; rfl
  · rw [State.stackBytes_setFrames]; rfl
  · refine ⟨?_, Nat.le_refl _, Nat.le_refl _, ?_, ?_, fun a c9 h9 => ⟨c9, h9, rfl, rfl, fun _ _ => rfl⟩⟩
    · obtain ⟨t, ht, -⟩ := State.frames_cons hr
      show T.setVm s.vm = { ((T.setVm s.vm).setFrames (.invoking m args :: below)).setFrames (T.setVm s.vm).frames with heap := T.heap, slotsUsed := T.slotsUsed }
      rw [State.setFrames_setFrames, State.setFrames_self ht]
      rfl
    · show T.slotsUsed = T.slotsUsed + ((T.heap.toList.drop T.heap.size).map (·.slots.size)).sum
      rw [List.drop_eq_nil_of_le (Nat.le_of_eq Array.length_toList)]
      rfl
    · show ((T.heap.toList.drop T.heap.size).map (·.slots.size)).sum ≤ 0
      rw [List.drop_eq_nil_of_le (Nat.le_of_eq Array.length_toList)]
      exact Nat.le_refl _
/-- 'throw new E()': new; dup; invokespecial; athrow -/
theorem vx_throw0 {cc : ByteArray} {pc : Nat} (hexec : p.tables.exec = Jvm.exec) (hb : c.code = cc) (hl : l.stackTraces = false) {own cls : String} {names : List String} {ik ic mc ms : Nat} {A : Nat → Prop}
    (hown : s.vm.findClass own = some m.cls) (hcls : Bundle.fit cls = true) (hnames : ∀ n ∈ names, Bundle.fit n = true)
    (hk : (Cond.classLink own ik cls).before args s = true) (hini : (Cond.initialized cls).before args s = true) (hat : ∀ w ∈ vx_at0 own ic cls names, w.before args s = true)
    (hgood : ∀ w ∈ Cond.classLink own ik cls :: Cond.initialized cls :: vx_at0 own ic cls names, vx_ot w = true)
    (hU : vx_Zq Bundle.tN "UNASSIGNED_STACK" Bundle.steD A s s.heap) (hN : vx_Zq Bundle.tN "SUPPRESSED_SENTINEL" Bundle.listD A s s.heap) (hS : va_S A s.heap H locs) (hsize : ls.size = c.maxLocals)
    (d0 : decode cc pc = .ok (.new ik, 3)) (d3 : decode cc (pc + 3) = .ok (.dup, 1)) (d4 : decode cc (pc + 4) = .ok (.invokespecial ic, 3)) (d7 : decode cc (pc + 7) = .ok (.athrow, 1))
    (hout : ∀ x ∈ c.exceptionTable.toList, covers x (pc + 7) = false)
    (hRframes : names.length + 3 < R.frames) (hRlocals : (rest.map fun v => v.category).sum + (13 * (names.length + 1) + 42) ≤ R.locals) (hRcells : cells + 1 ≤ R.cells) (hRslots : slots + 6 ≤ R.slots) (hlocks : meth.locks = false)
    (hx : ∀ t : State, s.vm.Alike t.vm → H.size ≤ t.heap.size → (∀ q : Nat, q < H.size → t.heap[q]? = H[q]?) → XC cls s t)
    (hf : ∀ z ∈ locs, free z.base) (hc : cells + 1 ≤ mc) (hs : slots + 6 ≤ ms) :
    W p l e R s m args below meth c H locs cells slots (vx_MQ below Qc XC args s mc ms free) (F0 m pc ls rest) := by
  intro T hT X
  have htr : e.platform.stackTraces = false := (show e.platform.stackTraces = l.stackTraces by rw [X.admits.platform]).trans hl
  have Y := vx_rebase X (R' := { frames := R.frames, locals := R.locals, cells := 1, slots := 6 }) (Nat.le_refl _) (Nat.le_refl _) hRcells hRslots
  obtain ⟨s', hA⟩ : ∃ z, z = (T.setVm s.vm).setFrames (.invoking m args :: below) := ⟨_, rfl⟩
  rw [← hA] at Y
  have hvm : s'.vm = s.vm := by rw [hA]; rfl
  have hhp : s'.heap = H := by rw [hA]; exact hT
  have hW0 : s.WarmedH s'.vm := by rw [hvm]; exact State.WarmedH.refl s
  have hat' : ∀ w ∈ vx_at0 own ic cls names, w.before args s' = true := fun w hw => vx_ot_at hW0 hvm.symm (hgood w (List.mem_cons_of_mem _ (List.mem_cons_of_mem _ hw))) (hat w hw)
  have hk' : (Cond.classLink own ik cls).before args s' = true := vx_ot_at hW0 hvm.symm (hgood _ List.mem_cons_self) hk
  have hini' : (Cond.initialized cls).before args s' = true := vx_ot_at hW0 hvm.symm (hgood _ (List.mem_cons_of_mem _ List.mem_cons_self)) hini
  have hU' : vx_Zq Bundle.tN "UNASSIGNED_STACK" Bundle.steD A s' s'.heap := by rw [hhp]; exact vx_Zq.moved hW0.alike (hU.kept hS.2.1)
  have hN' : vx_Zq Bundle.tN "SUPPRESSED_SENTINEL" Bundle.listD A s' s'.heap := by rw [hhp]; exact vx_Zq.moved hW0.alike (hN.kept hS.2.1)
  have h : ∀ w ∈ Bundle.ownAtoms0 own ic cls names, w.before args s' = true := vx_own hat' (vx_isRefq hU'.1) (vx_isRefq hN'.1) hU'.2.word hN'.2.word
  have hown' : s'.vm.findClass own = some m.cls := by rw [hvm]; exact hown
  have hins : (Cond.instantiable cls 6).before args s' = true := h _ (by simp [Bundle.ownAtoms0])
  obtain ⟨vm₁, cX, kX, hfX, hkX, -, -, X₁, st1⟩ := Y.newCold hexec (own := own) (C := cls) (index := ik) (n := 6) hown' hk' hins hini'
    (g := F0 m pc ls rest) rfl (by rw [hb]; exact d0) (Nat.le_refl _) (Nat.le_refl _)
  generalize hT1 : (T.setVm vm₁).pushCell { cls := cX, slots := kX.instanceTypes.map defaultValue, vm := .none } = T1 at X₁ st1
  have hcat : (Value.ref T.heap.size).category = 1 := rfl
  have hcellA : T1.heap[T.heap.size]? = some (freshCell cX kX) := by rw [← hT1]; exact State.heap_pushCell_size _ _
  have d3' : decode c.code (pc + 3) = .ok (.dup, 1) := by rw [hb]; exact d3
  obtain ⟨U, hsteps, hrun, hend, hW, hsame, ce, hce, hO⟩ := X₁.ctorThrow0 hexec htr (own := own) (cls := cls) (names := names) (ic := ic) hown' hcls hnames h (fun x hx => nomatch hx) hfX hkX hcellA (by rw [hhp, hT]; exact Nat.le_refl _)
    (g := { method := m, pc := pc + 4, locals := ls, stack := .ref T.heap.size :: .ref T.heap.size :: rest, locked := none }) rfl hsize rfl rfl (rest := rest) rfl
    (by rw [hb]; exact d4) (by rw [hb]; exact d7) hout hRframes (by simp only [List.map_cons, List.sum_cons, hcat]; omega) hlocks
  obtain ⟨f1, f2⟩ := vx_frame hsame
  rw [hhp] at f1 f2
  have hWs : s.WarmedH U.vm := State.WarmedH.trans hW0 hW
  have hcl : s.vm.findClass cls = some ce.cls := by
    have h9 := hO.cls
    rw [hvm] at h9
    exact h9
  have hall : s.sameButNew ({ U with vm := s.vm } : State) locs mc ms := by
    subst hA
    obtain ⟨e1, e2⟩ := hsame
    rw [State.setFrames_setFrames] at e1
    have h2 : (T.setVm s.vm).sameButNew ({ U with vm := s.vm } : State) [] (0 + 1) (0 + 6) := ⟨e1, e2⟩
    have h3 := X.same.trans h2
    rw [List.append_nil] at h3
    exact h3.mono hc hs
  refine ⟨U, ?_, .threw T.heap.size, hrun, hend, Or.inr ⟨T.heap.size, rfl, cls, ce, locs, hx U hWs.alike f1 (fun q hq => f2 q hq (fun z hz => nomatch hz)), hce, hO.vm, hcl, hWs, hall, hf⟩⟩
  refine st1 _ ?_
  show Steps p.tables e below (T1.setTop { method := m, pc := pc + 3, locals := ls, stack := .ref T.heap.size :: rest, locked := none }) _
  jvm_step X₁.here [X₁.here.top, hexec, d3', Value.category]
  exact hsteps
/-- 'throw new E("text")': new; dup; ldc; invokespecial; athrow -/
theorem vx_throwS {cc : ByteArray} {pc : Nat} (hexec : p.tables.exec = Jvm.exec) (hb : c.code = cc) (hl : l.stackTraces = false) {own cls text : String} {names : List String} {ik is ic mc ms sa : Nat} {A : Nat → Prop}
    (hown : s.vm.findClass own = some m.cls) (hcls : Bundle.fit cls = true) (hnames : ∀ n ∈ names, Bundle.fit n = true)
    (hk : (Cond.classLink own ik cls).before args s = true) (hini : (Cond.initialized cls).before args s = true) (hstr : vk_R own is text sa s) (hat : ∀ w ∈ vx_atS own ic cls names, w.before args s = true)
    (hgood : ∀ w ∈ Cond.classLink own ik cls :: Cond.initialized cls :: vx_atS own ic cls names, vx_ot w = true)
    (hU : vx_Zq Bundle.tN "UNASSIGNED_STACK" Bundle.steD A s s.heap) (hN : vx_Zq Bundle.tN "SUPPRESSED_SENTINEL" Bundle.listD A s s.heap) (hS : va_S A s.heap H locs) (hsize : ls.size = c.maxLocals)
    (d0 : decode cc pc = .ok (.new ik, 3)) (d3 : decode cc (pc + 3) = .ok (.dup, 1)) (d4 : decode cc (pc + 4) = .ok (.ldc is, 2)) (d6 : decode cc (pc + 6) = .ok (.invokespecial ic, 3)) (d9 : decode cc (pc + 9) = .ok (.athrow, 1))
    (hout : ∀ x ∈ c.exceptionTable.toList, covers x (pc + 9) = false)
    (hRframes : names.length + 3 < R.frames) (hRlocals : (rest.map fun v => v.category).sum + (13 * (names.length + 1) + 43) ≤ R.locals) (hRcells : cells + 1 ≤ R.cells) (hRslots : slots + 6 ≤ R.slots) (hlocks : meth.locks = false)
    (hx : ∀ t : State, s.vm.Alike t.vm → H.size ≤ t.heap.size → (∀ q : Nat, q < H.size → t.heap[q]? = H[q]?) → XC cls s t)
    (hf : ∀ z ∈ locs, free z.base) (hc : cells + 1 ≤ mc) (hs : slots + 6 ≤ ms) :
    W p l e R s m args below meth c H locs cells slots (vx_MQ below Qc XC args s mc ms free) (F0 m pc ls rest) := by
  intro T hT X
  have htr : e.platform.stackTraces = false := (show e.platform.stackTraces = l.stackTraces by rw [X.admits.platform]).trans hl
  have Y := vx_rebase X (R' := { frames := R.frames, locals := R.locals, cells := 1, slots := 6 }) (Nat.le_refl _) (Nat.le_refl _) hRcells hRslots
  obtain ⟨s', hA⟩ : ∃ z, z = (T.setVm s.vm).setFrames (.invoking m args :: below) := ⟨_, rfl⟩
  rw [← hA] at Y
  have hvm : s'.vm = s.vm := by rw [hA]; rfl
  have hhp : s'.heap = H := by rw [hA]; exact hT
  have hW0 : s.WarmedH s'.vm := by rw [hvm]; exact State.WarmedH.refl s
  have hat' : ∀ w ∈ vx_atS own ic cls names, w.before args s' = true := fun w hw => vx_ot_at hW0 hvm.symm (hgood w (List.mem_cons_of_mem _ (List.mem_cons_of_mem _ hw))) (hat w hw)
  have hk' : (Cond.classLink own ik cls).before args s' = true := vx_ot_at hW0 hvm.symm (hgood _ List.mem_cons_self) hk
  have hini' : (Cond.initialized cls).before args s' = true := vx_ot_at hW0 hvm.symm (hgood _ (List.mem_cons_of_mem _ List.mem_cons_self)) hini
  have hU' : vx_Zq Bundle.tN "UNASSIGNED_STACK" Bundle.steD A s' s'.heap := by rw [hhp]; exact vx_Zq.moved hW0.alike (hU.kept hS.2.1)
  have hN' : vx_Zq Bundle.tN "SUPPRESSED_SENTINEL" Bundle.listD A s' s'.heap := by rw [hhp]; exact vx_Zq.moved hW0.alike (hN.kept hS.2.1)
  have h : ∀ w ∈ Bundle.ownAtoms own ic cls names, w.before args s' = true := vx_own hat' (vx_isRefq hU'.1) (vx_isRefq hN'.1) hU'.2.word hN'.2.word
  have hown' : s'.vm.findClass own = some m.cls := by rw [hvm]; exact hown
  have hins : (Cond.instantiable cls 6).before args s' = true := h _ (by simp [Bundle.ownAtoms])
  obtain ⟨vm₁, cX, kX, hfX, hkX, -, -, X₁, st1⟩ := Y.newCold hexec (own := own) (C := cls) (index := ik) (n := 6) hown' hk' hins hini'
    (g := F0 m pc ls rest) rfl (by rw [hb]; exact d0) (Nat.le_refl _) (Nat.le_refl _)
  generalize hT1 : (T.setVm vm₁).pushCell { cls := cX, slots := kX.instanceTypes.map defaultValue, vm := .none } = T1 at X₁ st1
  have hcat : (Value.ref T.heap.size).category = 1 := rfl
  have hcellA : T1.heap[T.heap.size]? = some (freshCell cX kX) := by rw [← hT1]; exact State.heap_pushCell_size _ _
  have d3' : decode c.code (pc + 3) = .ok (.dup, 1) := by rw [hb]; exact d3
  have d4' : decode c.code (pc + 4) = .ok (.ldc is, 2) := by rw [hb]; exact d4
  have hstr' : vk_R own is text sa s' := vk_R.warm hW0 hstr
  obtain ⟨U, hsteps, hrun, hend, hW, hsame, ce, hce, hO⟩ := X₁.ctorThrowS hexec htr (own := own) (cls := cls) (names := names) (ic := ic) hown' hcls hnames h (fun x hx => nomatch hx) hfX hkX hcellA (by rw [hhp, hT]; exact Nat.le_refl _) (msg := .ref sa) rfl
    (g := { method := m, pc := pc + 6, locals := ls, stack := .ref sa :: .ref T.heap.size :: .ref T.heap.size :: rest, locked := none }) rfl hsize rfl rfl (rest := rest) rfl
    (by rw [hb]; exact d6) (by rw [hb]; exact d9) hout hRframes (by simp only [List.map_cons, List.sum_cons, hcat]; omega) hlocks
  obtain ⟨f1, f2⟩ := vx_frame hsame
  rw [hhp] at f1 f2
  have hWs : s.WarmedH U.vm := State.WarmedH.trans hW0 hW
  have hcl : s.vm.findClass cls = some ce.cls := by
    have h9 := hO.cls
    rw [hvm] at h9
    exact h9
  have hall : s.sameButNew ({ U with vm := s.vm } : State) locs mc ms := by
    subst hA
    obtain ⟨e1, e2⟩ := hsame
    rw [State.setFrames_setFrames] at e1
    have h2 : (T.setVm s.vm).sameButNew ({ U with vm := s.vm } : State) [] (0 + 1) (0 + 6) := ⟨e1, e2⟩
    have h3 := X.same.trans h2
    rw [List.append_nil] at h3
    exact h3.mono hc hs
  refine ⟨U, ?_, .threw T.heap.size, hrun, hend, Or.inr ⟨T.heap.size, rfl, cls, ce, locs, hx U hWs.alike f1 (fun q hq => f2 q hq (fun z hz => nomatch hz)), hce, hO.vm, hcl, hWs, hall, hf⟩⟩
  refine st1 _ ?_
  show Steps p.tables e below (T1.setTop { method := m, pc := pc + 3, locals := ls, stack := .ref T.heap.size :: rest, locked := none }) _
  jvm_step X₁.here [X₁.here.top, hexec, d3', Value.category]
  exact X₁.ldcString hexec (own := own) (text := text) (index := is) (a := sa) hown' hstr'.1 hstr'.2
    (g := { method := m, pc := pc + 4, locals := ls, stack := .ref T.heap.size :: .ref T.heap.size :: rest, locked := none }) rfl d4' _ hsteps
/-- 'throw new E("text")', the text by a wide index -/
theorem vx_throwSW {cc : ByteArray} {pc : Nat} (hexec : p.tables.exec = Jvm.exec) (hb : c.code = cc) (hl : l.stackTraces = false) {own cls text : String} {names : List String} {ik is ic mc ms sa : Nat} {A : Nat → Prop}
    (hown : s.vm.findClass own = some m.cls) (hcls : Bundle.fit cls = true) (hnames : ∀ n ∈ names, Bundle.fit n = true)
    (hk : (Cond.classLink own ik cls).before args s = true) (hini : (Cond.initialized cls).before args s = true) (hstr : vk_R own is text sa s) (hat : ∀ w ∈ vx_atS own ic cls names, w.before args s = true)
    (hgood : ∀ w ∈ Cond.classLink own ik cls :: Cond.initialized cls :: vx_atS own ic cls names, vx_ot w = true)
    (hU : vx_Zq Bundle.tN "UNASSIGNED_STACK" Bundle.steD A s s.heap) (hN : vx_Zq Bundle.tN "SUPPRESSED_SENTINEL" Bundle.listD A s s.heap) (hS : va_S A s.heap H locs) (hsize : ls.size = c.maxLocals)
    (d0 : decode cc pc = .ok (.new ik, 3)) (d3 : decode cc (pc + 3) = .ok (.dup, 1)) (d4 : decode cc (pc + 4) = .ok (.ldc_w is, 3)) (d7 : decode cc (pc + 7) = .ok (.invokespecial ic, 3)) (d10 : decode cc (pc + 10) = .ok (.athrow, 1))
    (hout : ∀ x ∈ c.exceptionTable.toList, covers x (pc + 10) = false)
    (hRframes : names.length + 3 < R.frames) (hRlocals : (rest.map fun v => v.category).sum + (13 * (names.length + 1) + 43) ≤ R.locals) (hRcells : cells + 1 ≤ R.cells) (hRslots : slots + 6 ≤ R.slots) (hlocks : meth.locks = false)
    (hx : ∀ t : State, s.vm.Alike t.vm → H.size ≤ t.heap.size → (∀ q : Nat, q < H.size → t.heap[q]? = H[q]?) → XC cls s t)
    (hf : ∀ z ∈ locs, free z.base) (hc : cells + 1 ≤ mc) (hs : slots + 6 ≤ ms) :
    W p l e R s m args below meth c H locs cells slots (vx_MQ below Qc XC args s mc ms free) (F0 m pc ls rest) := by
  intro T hT X
  have htr : e.platform.stackTraces = false := (show e.platform.stackTraces = l.stackTraces by rw [X.admits.platform]).trans hl
  have Y := vx_rebase X (R' := { frames := R.frames, locals := R.locals, cells := 1, slots := 6 }) (Nat.le_refl _) (Nat.le_refl _) hRcells hRslots
  obtain ⟨s', hA⟩ : ∃ z, z = (T.setVm s.vm).setFrames (.invoking m args :: below) := ⟨_, rfl⟩
  rw [← hA] at Y
  have hvm : s'.vm = s.vm := by rw [hA]; rfl
  have hhp : s'.heap = H := by rw [hA]; exact hT
  have hW0 : s.WarmedH s'.vm := by rw [hvm]; exact State.WarmedH.refl s
  have hat' : ∀ w ∈ vx_atS own ic cls names, w.before args s' = true := fun w hw => vx_ot_at hW0 hvm.symm (hgood w (List.mem_cons_of_mem _ (List.mem_cons_of_mem _ hw))) (hat w hw)
  have hk' : (Cond.classLink own ik cls).before args s' = true := vx_ot_at hW0 hvm.symm (hgood _ List.mem_cons_self) hk
  have hini' : (Cond.initialized cls).before args s' = true := vx_ot_at hW0 hvm.symm (hgood _ (List.mem_cons_of_mem _ List.mem_cons_self)) hini
  have hU' : vx_Zq Bundle.tN "UNASSIGNED_STACK" Bundle.steD A s' s'.heap := by rw [hhp]; exact vx_Zq.moved hW0.alike (hU.kept hS.2.1)
  have hN' : vx_Zq Bundle.tN "SUPPRESSED_SENTINEL" Bundle.listD A s' s'.heap := by rw [hhp]; exact vx_Zq.moved hW0.alike (hN.kept hS.2.1)
  have h : ∀ w ∈ Bundle.ownAtoms own ic cls names, w.before args s' = true := vx_own hat' (vx_isRefq hU'.1) (vx_isRefq hN'.1) hU'.2.word hN'.2.word
  have hown' : s'.vm.findClass own = some m.cls := by rw [hvm]; exact hown
  have hins : (Cond.instantiable cls 6).before args s' = true := h _ (by simp [Bundle.ownAtoms])
  obtain ⟨vm₁, cX, kX, hfX, hkX, -, -, X₁, st1⟩ := Y.newCold hexec (own := own) (C := cls) (index := ik) (n := 6) hown' hk' hins hini'
    (g := F0 m pc ls rest) rfl (by rw [hb]; exact d0) (Nat.le_refl _) (Nat.le_refl _)
  generalize hT1 : (T.setVm vm₁).pushCell { cls := cX, slots := kX.instanceTypes.map defaultValue, vm := .none } = T1 at X₁ st1
  have hcat : (Value.ref T.heap.size).category = 1 := rfl
  have hcellA : T1.heap[T.heap.size]? = some (freshCell cX kX) := by rw [← hT1]; exact State.heap_pushCell_size _ _
  have d3' : decode c.code (pc + 3) = .ok (.dup, 1) := by rw [hb]; exact d3
  have d4' : decode c.code (pc + 4) = .ok (.ldc_w is, 3) := by rw [hb]; exact d4
  have hstr' : vk_R own is text sa s' := vk_R.warm hW0 hstr
  obtain ⟨U, hsteps, hrun, hend, hW, hsame, ce, hce, hO⟩ := X₁.ctorThrowS hexec htr (own := own) (cls := cls) (names := names) (ic := ic) hown' hcls hnames h (fun x hx => nomatch hx) hfX hkX hcellA (by rw [hhp, hT]; exact Nat.le_refl _) (msg := .ref sa) rfl
    (g := { method := m, pc := pc + 7, locals := ls, stack := .ref sa :: .ref T.heap.size :: .ref T.heap.size :: rest, locked := none }) rfl hsize rfl rfl (rest := rest) rfl
    (by rw [hb]; exact d7) (by rw [hb]; exact d10) hout hRframes (by simp only [List.map_cons, List.sum_cons, hcat]; omega) hlocks
  obtain ⟨f1, f2⟩ := vx_frame hsame
  rw [hhp] at f1 f2
  have hWs : s.WarmedH U.vm := State.WarmedH.trans hW0 hW
  have hcl : s.vm.findClass cls = some ce.cls := by
    have h9 := hO.cls
    rw [hvm] at h9
    exact h9
  have hall : s.sameButNew ({ U with vm := s.vm } : State) locs mc ms := by
    subst hA
    obtain ⟨e1, e2⟩ := hsame
    rw [State.setFrames_setFrames] at e1
    have h2 : (T.setVm s.vm).sameButNew ({ U with vm := s.vm } : State) [] (0 + 1) (0 + 6) := ⟨e1, e2⟩
    have h3 := X.same.trans h2
    rw [List.append_nil] at h3
    exact h3.mono hc hs
  refine ⟨U, ?_, .threw T.heap.size, hrun, hend, Or.inr ⟨T.heap.size, rfl, cls, ce, locs, hx U hWs.alike f1 (fun q hq => f2 q hq (fun z hz => nomatch hz)), hce, hO.vm, hcl, hWs, hall, hf⟩⟩
  refine st1 _ ?_
  show Steps p.tables e below (T1.setTop { method := m, pc := pc + 3, locals := ls, stack := .ref T.heap.size :: rest, locked := none }) _
  jvm_step X₁.here [X₁.here.top, hexec, d3', Value.category]
  exact X₁.ldcStringW hexec (own := own) (text := text) (index := is) (a := sa) hown' hstr'.1 hstr'.2
    (g := { method := m, pc := pc + 4, locals := ls, stack := .ref T.heap.size :: .ref T.heap.size :: rest, locked := none }) rfl d4' _ hsteps
end Ends
section Bodies
variable {l : Launch}
theorem vx_ofW {y : MethodName} {ws ws' : List Cond} {rm : Room} {Pc : Array Value → State → Prop} {Qc : Array Value → State → Outcome → State → Prop} {XC : String → State → State → Prop} {mc ms : Nat} {free : Addr → Prop} {cc : ByteArray} {maxL : Nat} {ret : Option FieldType}
    (hy : plainName y.cls = true) (hw : ws = Cond.code y cc maxL ret :: ws')
    (body : ∀ p e s m args below meth c s₁, BodyLoose p l y (headSpec ws rm) cc maxL ret e s m args below meth c s₁ → c.maxLocals = maxL → (∀ x ∈ c.exceptionTable.toList, False) → Pc args s →
      W p l e (headSpec ws rm).room s m args below meth c s.heap [] 0 0 (vx_MQ below Qc XC args s mc ms free) (entryFrame m args maxL)) : vx_Met l y ws rm Pc Qc XC mc ms free := by
  refine MetFree.of_bodyS (code := cc) (maxLocals := maxL) (ret := ret) hy ?_ ?_
  · intro args s m h hn
    obtain ⟨meth, c, h1, h2, h3, h4, h5, h6, -, -⟩ := Cond.code_spec hn (atoms_spec (ws := ws) h _ (by rw [hw]; exact List.mem_cons_self))
    exact ⟨meth, c, h1, h2, h3, h4, h5, h6⟩
  · intro p e s m args below meth c s₁ B hml hP _
    have hh0 : s₁.heap = s.heap := by rw [B.state]; rfl
    have ht : ∀ x ∈ c.exceptionTable.toList, False := by
      obtain ⟨meth9, c9, h1, h2, -, -, -, -, h7, -⟩ := Cond.code_spec B.named (atoms_spec (ws := ws) B.pre _ (by rw [hw]; exact List.mem_cons_self))
      cases Option.some.inj (h1.symm.trans B.method)
      cases Option.some.inj (h2.symm.trans (Stand.of_body B).code)
      intro x hx
      rw [Array.isEmpty_iff.mp h7] at hx
      cases hx
    obtain ⟨t, a1, o, b1, b2, b3⟩ := body p e s m args below meth c s₁ B hml ht hP s₁ hh0 (Stand.of_body B)
    exact ⟨t, o, a1, b1, b2, b3⟩
/-- the table of a body with handlers -/
theorem vx_table {p : Program} {x y : MethodName} {S : Spec} {cc bytes : ByteArray} {maxL maxL' : Nat} {ret ret' : Option FieldType} {e : Env} {s s₁ : State} {m : MethodId} {args : Array Value} {below : List Frame} {meth : Method} {c : Code} {hh : List (Nat × Nat × Nat × Nat)}
    (B : BodyLoose p l y S cc maxL ret e s m args below meth c s₁) (h : (Cond.codeWith y bytes maxL' ret' hh).before args s = true) : c.exceptionTable.toList = tableOf hh := by
  obtain ⟨m9, meth9, c9, hn9, h1, h2, -, -, h6, -⟩ := Cond.codeWith_spec h
  cases Option.some.inj (hn9.symm.trans B.named)
  cases Option.some.inj (h1.symm.trans B.method)
  cases Option.some.inj (h2.symm.trans (Stand.of_body B).code)
  rw [← h6, table_eq]
end Bodies
end VXA
/-! ===== END ===== -/
/-! ===== BEGIN a static call of a method with an exception table ===== -/
section VXS
variable {p : Program} {l : Launch} {e : Env} {R : Room} {s : State} {m : MethodId} {args : Array Value} {below : List Frame} {meth : Method} {c : Code} {T : State} {H : Heap} {locs : List Loc} {cells slots : Nat}
abbrev vx_CSW (R : Room) (s : State) (args : Array Value) (own : String) (index : Nat) (y : MethodName) (bytes : ByteArray) (maxL : Nat) (ret : Option FieldType) (hh : List (Nat × Nat × Nat × Nat)) (ws : List Cond) (rm : Room) (mc ms n : Nat) : Prop :=
  (rm.cells = mc ∧ rm.slots = ms ∧ rm.frames + 1 ≤ R.frames ∧ 8 + (maxL + 11) + rm.locals ≤ R.locals ∧ (∀ w ∈ ws, ∀ (a' : Array Value) (U : State), s.WarmedH U.vm → w.before a' U = true) ∧ Cond.codeWith y bytes maxL ret hh ∈ ws) ∧
  (Cond.codeWith y bytes maxL ret hh).before args s = true ∧ (Cond.initialized y.cls).before args s = true ∧ (y.cls ≠ "java/lang/invoke/MethodHandle" ∧ y.cls ≠ "java/lang/invoke/VarHandle") ∧
  (∀ sig, parseMethodDescriptor y.desc = some sig → n = sig.parameters.length) ∧ (Cond.methodLink own index y).before args s = true ∧ (Cond.static y).before args s = true
theorem vx_cwSW {own : String} {index maxL mc ms : Nat} {y : MethodName} {bytes : ByteArray} {ret : Option FieldType} {hh : List (Nat × Nat × Nat × Nat)} {Ts ws ws' : List Cond} {rm : Room} (n : Nat) (ht : ∀ w ∈ Ts, w.before args s = true) (hT : GoodIn Ts (va_wsS own index y ws)) (hw : ws = Cond.codeWith y bytes maxL ret hh :: ws') (hrc : rm.cells = mc) (hrs : rm.slots = ms)
    (hd : y.cls ≠ "java/lang/invoke/MethodHandle" ∧ y.cls ≠ "java/lang/invoke/VarHandle" ∧ (parseMethodDescriptor y.desc).map (fun d => d.parameters.length) = some n) (hR : rm.frames + 1 ≤ R.frames ∧ 8 + (maxL + 11) + rm.locals ≤ R.locals) :
    vx_CSW R s args own index y bytes maxL ret hh ws rm mc ms n := by
  have ok : ∀ w ∈ va_wsS own index y ws, w.before args s = true := fun w h => ht w (hT w h).1
  have hG : GoodIn Ts ws := fun w h => hT w (by unfold va_wsS; exact List.mem_append_right _ h)
  have hc : Cond.codeWith y bytes maxL ret hh ∈ ws := by rw [hw]; exact List.mem_cons_self
  refine ⟨⟨hrc, hrs, hR.1, hR.2, pay_in ht hG, hc⟩, ht _ (hG _ hc).1, ok _ (by simp [va_wsS]), ⟨hd.1, hd.2.1⟩, fun sig h => ?_, ok _ (by simp [va_wsS]), ok _ (by simp [va_wsS])⟩
  have h2 := hd.2.2
  rw [h] at h2
  exact (Option.some.inj h2).symm
theorem vx_callSW (X : Stand p l e R s m args below meth c T locs cells slots) (hexec : p.tables.exec = Jvm.exec) {own : String} {index : Nat} {y : MethodName} {bytes : ByteArray} {maxL : Nat} {ret : Option FieldType} {hh : List (Nat × Nat × Nat × Nat)}
    (hown : s.vm.findClass own = some m.cls) (hlink : (Cond.methodLink own index y).before args s = true) (hstat : (Cond.static y).before args s = true) (hinit : (Cond.initialized y.cls).before args s = true)
    (hcode : (Cond.codeWith y bytes maxL ret hh).before args s = true) (hy : y.cls ≠ "java/lang/invoke/MethodHandle" ∧ y.cls ≠ "java/lang/invoke/VarHandle")
    {W9 : Nat} {Pre : Pt → Array Value → Prop} {Post : Pt → Array Value → Option Value → Pt → Prop} (hK : Back l R p e below s args y 3 W9 Pre Post)
    {g : JFrame} (hg : g.method = m) (hsize : g.locals.size = c.maxLocals) {argsL rest : List Value} (hlen : ∀ sig, parseMethodDescriptor y.desc = some sig → argsL.length = sig.parameters.length)
    (hstack : g.stack = argsL.reverse ++ rest) (hW : 2 * g.monitorRoom + (rest.map fun v => v.category).sum ≤ W9) (hdg : decode c.code g.pc = .ok (.invokestatic index, 3))
    (hpre : ∀ vm₁, s.WarmedH vm₁ → Pre ⟨T.setVm vm₁, locs, cells, slots⟩ argsL.toArray) :
    ∃ (v : Option Value) (vm₁ : Vm) (B : Pt), s.WarmedH vm₁ ∧ Stand p l e R s m args below meth c B.U B.locs B.cells B.slots ∧ Post ⟨T.setVm vm₁, locs, cells, slots⟩ argsL.toArray v B ∧
      ∀ target, Steps p.tables e below (B.U.setTop { g with pc := g.pc + 3, stack := v.toList ++ rest }) target → Steps p.tables e below (T.setTop g) target := by
  obtain ⟨mk, methM, cM, hnamed, hmethM, -, -, -, -, -, -, hsigM⟩ := Cond.codeWith_spec hcode
  have hstatic : methM.isStatic = true := Cond.static_spec hnamed hmethM hstat
  obtain ⟨kP, hkP, -⟩ := className_of_methodNamed hnamed
  have hinitP : kP.init = .initialized := Cond.initialized_spec (findClass_of_methodNamed hnamed) hkP hinit
  obtain ⟨vm₁, X₁, hstep₁⟩ := X.invokestatic hexec hown hlink hnamed hmethM hstatic hkP hinitP hy (g := g) hg (argsL := argsL) (rest := rest) (hlen _ hsigM) hstack hdg
  obtain ⟨v, B, X', hpost, hsteps⟩ := hK m meth c ⟨T.setVm vm₁, locs, cells, slots⟩ { g with stack := rest } (.invokestatic index) mk argsL.toArray X₁ hg hsize hdg hW (X₁.named hnamed) (hpre vm₁ X₁.warmed)
  exact ⟨v, vm₁, B, X₁.warmed, X', hpost, fun target h => hstep₁ _ fun acts => by rw [doInvoke_state]; exact hsteps.trans h⟩
theorem vx_runSW {y : MethodName} {bytes cc : ByteArray} {maxL nL mc ms n index : Nat} {ret : Option FieldType} {hh : List (Nat × Nat × Nat × Nat)} {ws : List Cond} {rm : Room} {Pc : Array Value → State → Prop} {Qc : Array Value → State → Outcome → State → Prop} {free : Addr → Prop} {Ts : List Cond} {own : String} {As rest : List Value} {g : JFrame}
    (S : CallFix p m c cc nL s args Ts own) (hM : Met l y ws rm Pc Qc mc ms free) (cw : vx_CSW R s args own index y bytes maxL ret hh ws rm mc ms n) (hp : PreS s H Pc As)
    (hg : g.method = m) (hn : As.length = n) (hsize : g.locals.size = nL) (hstack : g.stack = As.reverse ++ rest) (hW : 2 * g.monitorRoom + (rest.map fun v => v.category).sum ≤ 8) (hdg : decode cc g.pc = .ok (.invokestatic index, 3)) (hf : cells + mc ≤ R.cells ∧ slots + ms ≤ R.slots) :
    va_Run p l e R s m args below meth c H locs cells slots mc ms g rest (Qc As.toArray) (free) := by
  obtain ⟨⟨hrc, hrs, hfr, hlo, hws, hcw⟩, hcode, hini, hy, hlen, hl, hstt⟩ := cw
  have hK : Back l R p e below s args y 3 8 (PreOf R mc ms Pc) (PostOf Qc mc ms free) := va_backW (hh := hh) (bytes := bytes) (maxL := maxL) (ret := ret) hM hp.1 hrc hrs hfr hlo hws hcw (fun a' U hW => word_at hW (Or.inl (by first | rfl | simp [Cond.onTables, Cond.keeps, Cond.steady])) hini)
  obtain ⟨hx, hb, hml, ho, -⟩ := S
  intro T hT X
  obtain ⟨v, vm₁, ⟨U', l2, c2, s2⟩, hW₁, X', ⟨g', mk, t, L, e1, e2, hq, h1, hL, h2, h3⟩, st⟩ := vx_callSW X hx (hh := hh) (bytes := bytes) (maxL := maxL) (ret := ret) ho hl hstt hini hcode hy hK hg (hsize.trans hml.symm) (argsL := As) (rest := rest) (fun sig h => hn.trans (hlen sig h)) hstack hW (by rw [hb]; exact hdg)
    (fun vm₁ hW₁ => ⟨hf.1, hf.2, hp.2 (T.setVm vm₁) hT hW₁⟩)
  dsimp only [Pt.U, Pt.locs, Pt.cells, Pt.slots] at X' e1 e2 h1 h2 h3 st
  subst h1; subst h2; subst h3
  exact ⟨v, (T.setVm vm₁).calling g' mk As.toArray, t, U', L, hT, X', hL, e1, e2, hq, st⟩
/-- not caught here, past rows that name other classes: it goes on to the caller -/
theorem vx_outP {p : Program} {l : Launch} {e : Env} {R : Room} {s : State} {m : MethodId} {args : Array Value} {below : List Frame} {meth : Method} {c : Code} {H : Heap} {locs : List Loc} {cells slots : Nat} {free : Addr → Prop} {ls : Array Slot} {rest : List Value} {Qc : Array Value → State → Outcome → State → Prop} {XC : String → State → State → Prop}
    {pc : Nat} {own E : String} {ce : Cell} {q : Addr} {mc ms : Nat} (hown : s.vm.findClass own = some m.cls) (hlocks : meth.locks = false)
    (hpass : ∀ z ∈ c.exceptionTable.toList, covers z pc = false ∨ (z.catchType ≠ 0 ∧ ∃ nm : String, (Cond.classLink own z.catchType nm).before args s = true ∧ va_Nc E nm s)) (hcell : H[q]? = some ce) (hv : ce.vm = .none) (hcl : s.vm.findClass E = some ce.cls)
    (hx : ∀ t : State, t.heap = H → s.vm.Alike t.vm → XC E s t) (hf : ∀ z ∈ locs, free z.base) (hc : cells ≤ mc) (hs : slots ≤ ms) :
    vx_W p l e R s m args below meth c H locs cells slots (vx_MQ below Qc XC args s mc ms free) (F0 m pc ls rest) q := by
  intro T hT X
  have hpl : e.platform.magicAccessors = ({} : Platform).magicAccessors := by rw [X.admits.platform]
  obtain ⟨vm', hW', X', st⟩ := X.outThrough hlocks q (g := F0 m pc ls rest) rfl rfl rfl (cell := ce) (by rw [hT]; exact hcell) (by rw [hv]; rfl)
    (by obtain ⟨k9, h9, -⟩ := Vm.findClass_spec hcl; exact ⟨k9, h9⟩) (fun z hz => by
      rcases hpass z hz with h | ⟨hz0, nm, hl1, hn1⟩
      · exact Or.inl h
      · obtain ⟨c6, hc6, hcl6⟩ := Cond.classLink_spec hown hl1 e.platform hpl
        obtain ⟨a8, b8, h1, h2, h3⟩ := hn1
        cases Option.some.inj (h1.symm.trans hcl)
        cases Option.some.inj (h2.symm.trans hc6)
        exact Or.inr ⟨hz0, _, hcl6, h3⟩)
  obtain ⟨g₀, hfr⟩ := X'.frames_eq
  have hcell9 : ((T.setVm vm').setFrames (.throwing q :: below)).heap[q]? = some ce := by
    show T.heap[q]? = some ce
    rw [hT]; exact hcell
  have hend : Ended ((T.setVm vm').setFrames (.throwing q :: below)) below (.threw q) := State.frames_setFrames _ (State.cur_lt_of_frames hfr)
  refine ⟨(T.setVm vm').setFrames (.throwing q :: below), ?_, .threw q, X'.here.running, hend, Or.inr ⟨q, rfl, E, ce, locs, hx _ hT (X'.ends _).1.alike, hcell9, hv, hcl, (X'.ends _).1, (X'.ends _).2.mono hc hs, hf⟩⟩
  rw [X.pushThrowing_eq]
  exact st
/-- a thing of a world lies in the heap -/
theorem vx_lt {D : va_G} {cl : List vw_C} {ws : va_W} {H1 : Heap} (h : va_P D cl ws H1) {k : Nat} {q : Nat × va_E} (hk : ws[k]? = some q) : q.1 < H1.size := (h k q hk).lt
end VXS
/-! ===== END ===== -/
/-! ===== BEGIN methods with a table of their own: called by a name, returning or throwing ===== -/
section VXH
/-! vx_backW, vx_callVX, vx_callSX, vx_callVW, vx_runVW, vx_runVX, vx_runSX, vx_ofWH follow the same proofs as their sisters above (Free/Laws.lean, Shelf42/LK1.lean); vx_outP calls Shelf42/NT130.lean (outThrough). -/
section
variable {l : Launch} {R : Room} {p : Program} {e : Env} {below : List Frame} {s : State} {sargs : Array Value} {y : MethodName} {len W9 : Nat}
theorem vx_backW {ws : List Cond} {rm : Room} {Pc : Array Value → State → Prop} {Qc : Array Value → State → Outcome → State → Prop} {XC : String → State → State → Prop} {mc ms : Nat} {free : Addr → Prop} {bytes : ByteArray} {maxL : Nat} {ret : Option FieldType} {hh : List (Nat × Nat × Nat × Nat)}
    (hM : vx_Met l y ws rm Pc Qc XC mc ms free) (hblind : FrameBlind Pc) (hrc : rm.cells = mc) (hrs : rm.slots = ms)
    (hframes : rm.frames + 1 ≤ R.frames) (hlocals : W9 + (maxL + 11) + rm.locals ≤ R.locals)
    (hws : ∀ w ∈ ws, ∀ a' U, s.WarmedH U.vm → w.before a' U = true) (hcode : Cond.codeWith y bytes maxL ret hh ∈ ws) (hinit : ∀ a' U, s.WarmedH U.vm → (Cond.initialized y.cls).before a' U = true) :
    vx_Back l R p e below s sargs y len W9 (PreOf R mc ms Pc) (PostOf Qc mc ms free) (vx_Post XC mc ms free) := by
  intro m meth c A g ig mk a X hg hsize hdg hW hn hp
  have h1 : (headSpec ws rm).pre.before a A.U = true := atoms_intro fun w hw => hws w hw _ _ X.warmed
  have h2 : (Cond.codeWith y bytes maxL ret hh).before a A.U = true := hws _ hcode _ _ X.warmed
  have h3 : (Cond.initialized y.cls).before a A.U = true := hinit _ _ X.warmed
  have h4 : A.cells + (headSpec ws rm).room.cells ≤ R.cells := by rw [show (headSpec ws rm).room.cells = mc from hrc]; exact hp.1
  have h5 : A.slots + (headSpec ws rm).room.slots ≤ R.slots := by rw [show (headSpec ws rm).room.slots = ms from hrs]; exact hp.2.1
  have hPc : Pc a (A.U.calling g mk a) := hblind _ _ _ _ hp.2.2
  obtain ⟨U, Ls, c0, s0⟩ := A
  dsimp only [Pt.U, Pt.locs, Pt.cells, Pt.slots] at h1 h2 h3 h4 h5 X hn hPc ⊢
  obtain ⟨m9, methY, cY, hn9, hmY, hcY, -, hlY, -⟩ := Cond.codeWith_spec h2
  cases Option.some.inj (hn9.symm.trans hn)
  obtain ⟨kY, hkY, -⟩ := className_of_methodNamed hn
  have hinitY : kY.init = .initialized := Cond.initialized_spec (findClass_of_methodNamed hn) hkY h3
  have h : At U g.method c below := by rw [hg]; exact X.here
  have hlocals9 : W9 + (maxL + 11) + (headSpec ws rm).room.locals ≤ R.locals := hlocals
  have happ : (headSpec ws rm).appliesLoose y e.platform (U.calling g mk a) = true :=
    Spec.appliesLoose_calling (g := g) h hdg hn hkY hinitY
      (X.room_calling (g := g) (R' := (headSpec ws rm).room) hsize hmY hcY hframes (by rw [hlY]; omega) h4 h5) h1
  obtain ⟨mid, hmid⟩ := h.above
  have hfr : (U.setTop g).frames = (.java g :: mid) ++ below := by rw [State.frames_setTop' g h.top, hmid]; rfl
  obtain ⟨o, s₂, hsteps, -, hend, hq⟩ := Steps.callFree hM p X.admits X.cas X.clock (acts := []) hfr happ hPc trivial
  have hq' : vx_Q Qc XC mc ms free a (U.calling g mk a) o s₂ := hq
  rw [State.frames_setTop' g h.top] at hend
  obtain ⟨g₀, hg0⟩ := Option.isSome_iff_exists.mp h.top
  obtain ⟨r, hr⟩ := State.topJava?_eq_some.mp hg0
  have hr' : (({ U with heap := s₂.heap, slotsUsed := s₂.slotsUsed } : State).setVm s₂.vm).frames = .java g₀ :: r := hr
  rcases hq' with ⟨hqc, L, hfe, hL⟩ | ⟨q, rfl, E, ce, L, hx, hce, hcv, hcl, hW₂, hsm, hL⟩
  · obtain ⟨⟨v, rfl⟩, hW₂, e2, q2, q3, q4, q5, q6⟩ := id hfe
    have e3 : s₂ = ({ (U.calling g mk a).setFrames s₂.frames with heap := s₂.heap, slotsUsed := s₂.slotsUsed } : State).setVm s₂.vm := by
      have : s₂ = ({ s₂ with vm := (U.calling g mk a).vm } : State).setVm s₂.vm := rfl
      rw [e2] at this
      exact this
    obtain ⟨c₂, i₂, len₂, hc₂, hd₂, hf₂⟩ := hend
    have hW' : U.WarmedH s₂.vm := hW₂
    have hcc : c₂ = c := by
      have h1 : s₂.code? g.method = U.code? g.method := by
        rw [State.code?_eq, State.code?_eq, hW'.alike.method?]
      exact Option.some.inj (hc₂.symm.trans (h1.trans h.code))
    subst hcc
    have hlen : len₂ = len := by rw [hdg] at hd₂; cases hd₂; rfl
    subst hlen
    have hs₂ : s₂ = (({ U with heap := s₂.heap, slotsUsed := s₂.slotsUsed } : State).setVm s₂.vm).setTop { g with pc := g.pc + len₂, stack := v.toList ++ g.stack } := by
      refine e3.trans ?_
      rw [hf₂, State.calling_eq h.top, State.setFrames_setFrames, State.setTop_of_frames _ hr', hr]
      rfl
    have hsame : U.sameButNew ({ U with heap := s₂.heap, slotsUsed := s₂.slotsUsed } : State) L mc ms := by
      refine ⟨?_, q2, q3, q4, q5, q6⟩
      obtain ⟨t, ht, -⟩ := State.frames_cons hr
      show ({ U with heap := s₂.heap, slotsUsed := s₂.slotsUsed } : State) = { U.setFrames U.frames with heap := s₂.heap, slotsUsed := s₂.slotsUsed }
      rw [State.setFrames_self ht]
    subst hg
    refine Or.inl ⟨v, ⟨(({ U with heap := s₂.heap, slotsUsed := s₂.slotsUsed } : State).setVm s₂.vm), Ls ++ L, c0 + mc, s0 + ms⟩,
      ⟨X.admits, X.cas, X.clock, X.frames, X.room, X.hears, X.method, X.code, (X.here.setHeapUsed s₂.heap s₂.slotsUsed).setVm hW'.alike, X.tail, State.WarmedH.trans X.warmed hW', X.limits, X.bytes, X.same.trans (hsame.setVm s.vm)⟩,
      ⟨g, mk, s₂, L, rfl, rfl, hqc, rfl, hL, rfl, rfl⟩, ?_⟩
    show Steps p.tables e below _ ((({ U with heap := s₂.heap, slotsUsed := s₂.slotsUsed } : State).setVm s₂.vm).setTop { g with pc := g.pc + len₂, stack := v.toList ++ g.stack })
    rw [← hs₂]
    exact hsteps
  · obtain ⟨e2, q2, q3, q4, q5, q6⟩ := id hsm
    have e3 : s₂ = ({ (U.calling g mk a).setFrames s₂.frames with heap := s₂.heap, slotsUsed := s₂.slotsUsed } : State).setVm s₂.vm := by
      have : s₂ = ({ s₂ with vm := (U.calling g mk a).vm } : State).setVm s₂.vm := rfl
      rw [e2] at this
      exact this
    have hf₂ : s₂.frames = .throwing q :: .java g :: U.frames.tail := hend
    have hW' : U.WarmedH s₂.vm := hW₂
    have hs₂ : s₂ = ((({ U with heap := s₂.heap, slotsUsed := s₂.slotsUsed } : State).setVm s₂.vm).setTop g).pushFrame (.throwing q) := by
      refine e3.trans ?_
      rw [hf₂, State.calling_eq h.top, State.setFrames_setFrames, State.pushFrame, State.frames_setTop _ hr', State.setTop_of_frames _ hr', State.setFrames_setFrames, hr]
      rfl
    have hsame : U.sameButNew ({ U with heap := s₂.heap, slotsUsed := s₂.slotsUsed } : State) L mc ms := by
      refine ⟨?_, q2, q3, q4, q5, q6⟩
      obtain ⟨t, ht, -⟩ := State.frames_cons hr
      show ({ U with heap := s₂.heap, slotsUsed := s₂.slotsUsed } : State) = { U.setFrames U.frames with heap := s₂.heap, slotsUsed := s₂.slotsUsed }
      rw [State.setFrames_self ht]
    subst hg
    refine Or.inr ⟨q, ⟨(({ U with heap := s₂.heap, slotsUsed := s₂.slotsUsed } : State).setVm s₂.vm), Ls ++ L, c0 + mc, s0 + ms⟩,
      ⟨X.admits, X.cas, X.clock, X.frames, X.room, X.hears, X.method, X.code, (X.here.setHeapUsed s₂.heap s₂.slotsUsed).setVm hW'.alike, X.tail, State.WarmedH.trans X.warmed hW', X.limits, X.bytes, X.same.trans (hsame.setVm s.vm)⟩,
      ⟨g, mk, s₂, L, E, ce, rfl, rfl, hx, hce, hcv, hcl, rfl, hL, rfl, rfl⟩, ?_⟩
    show Steps p.tables e below _ (((({ U with heap := s₂.heap, slotsUsed := s₂.slotsUsed } : State).setVm s₂.vm).setTop g).pushFrame (.throwing q))
    rw [← hs₂]
    exact hsteps
end
variable {p : Program} {l : Launch} {e : Env} {R : Room} {s : State} {m : MethodId} {args : Array Value} {below : List Frame} {meth : Method} {c : Code} {T : State} {H : Heap} {locs : List Loc} {cells slots : Nat}
theorem vx_callVX (X : Stand p l e R s m args below meth c T locs cells slots) (hexec : p.tables.exec = Jvm.exec) {own C : String} {index : Nat} {y : MethodName} {bytes : ByteArray} {maxL : Nat} {ret : Option FieldType} {hh : List (Nat × Nat × Nat × Nat)}
    (hown : s.vm.findClass own = some m.cls) (hlink : (Cond.methodLink own index y).before args s = true) (hinst : (Cond.instanceMethod y).before args s = true) (hsel : (Cond.selects C y y).before args s = true)
    (hcode : (Cond.codeWith y bytes maxL ret hh).before args s = true) (hy : y.cls ≠ "java/lang/invoke/MethodHandle" ∧ y.cls ≠ "java/lang/invoke/VarHandle")
    {W9 : Nat} {Pre : Pt → Array Value → Prop} {Post : Pt → Array Value → Option Value → Pt → Prop} {PostX : Pt → Array Value → Addr → Pt → Prop} (hK : vx_Back l R p e below s args y 3 W9 Pre Post PostX)
    {b : Addr} {cellB : Cell} (hcell : T.heap[b]? = some cellB) (hobj : cellB.vm.isStatics = false) (hcls : s.vm.findClass C = some cellB.cls)
    {g : JFrame} (hg : g.method = m) (hsize : g.locals.size = c.maxLocals) {argsL rest : List Value} (hlen : ∀ sig, parseMethodDescriptor y.desc = some sig → argsL.length = sig.parameters.length)
    (hstack : g.stack = argsL.reverse ++ .ref b :: rest) (hW : 2 * g.monitorRoom + (rest.map fun v => v.category).sum ≤ W9) (hdg : decode c.code g.pc = .ok (.invokevirtual index, 3))
    (hpre : ∀ vm₁, s.WarmedH vm₁ → Pre ⟨T.setVm vm₁, locs, cells, slots⟩ (Value.ref b :: argsL).toArray) :
    (∃ (v : Option Value) (vm₁ : Vm) (B : Pt), s.WarmedH vm₁ ∧ Stand p l e R s m args below meth c B.U B.locs B.cells B.slots ∧ Post ⟨T.setVm vm₁, locs, cells, slots⟩ (Value.ref b :: argsL).toArray v B ∧
      ∀ target, Steps p.tables e below (B.U.setTop { g with pc := g.pc + 3, stack := v.toList ++ rest }) target → Steps p.tables e below (T.setTop g) target) ∨
    (∃ (q : Addr) (vm₁ : Vm) (B : Pt), s.WarmedH vm₁ ∧ Stand p l e R s m args below meth c B.U B.locs B.cells B.slots ∧ PostX ⟨T.setVm vm₁, locs, cells, slots⟩ (Value.ref b :: argsL).toArray q B ∧
      Steps p.tables e below (T.setTop g) ((B.U.setTop { g with stack := rest }).pushFrame (.throwing q))) := by
  obtain ⟨mk, methM, hnamed, hmethM, hstM, habM⟩ := Cond.instanceMethod_spec hinst
  obtain ⟨m8, methM', cM, hn8, hmethM', -, -, -, -, -, -, hsigM⟩ := Cond.codeWith_spec hcode
  cases Option.some.inj (hn8.symm.trans hnamed)
  cases hmethM.symm.trans hmethM'
  obtain ⟨c2, r2, m2, q1, q2, q3, q4, kP, hkP, hkPi⟩ := Cond.selects_spec hsel
  cases hcls.symm.trans q1
  cases (State.methodFound?_of_named hnamed hy).symm.trans q2
  cases hnamed.symm.trans q3
  have hselP : selectMethod e.platform s.vm cellB.cls mk = .method mk := by rw [Launch.admits_selectMethod X.admits]; exact q4
  obtain ⟨vm₁, X₁, hstep₁⟩ := X.invokevirtual hexec hown hlink hnamed hmethM hstM hkP hkPi hy (a := b) (cell := cellB) hcell
    (fun z h => by rw [h] at hobj; cases hobj) hselP hmethM habM hkP hkPi (g := g) hg (argsL := argsL) (rest := rest) (hlen _ hsigM) hstack hdg
  rcases hK m meth c ⟨T.setVm vm₁, locs, cells, slots⟩ { g with stack := rest } (.invokevirtual index) mk (Value.ref b :: argsL).toArray X₁ hg hsize hdg hW (X₁.named hnamed) (hpre vm₁ X₁.warmed) with ⟨v, B, X', hpost, hsteps⟩ | ⟨q, B, X', hpost, hsteps⟩
  · exact Or.inl ⟨v, vm₁, B, X₁.warmed, X', hpost, fun target h => hstep₁ _ fun acts => by rw [doInvoke_state]; exact hsteps.trans h⟩
  · exact Or.inr ⟨q, vm₁, B, X₁.warmed, X', hpost, hstep₁ _ fun acts => by rw [doInvoke_state]; exact hsteps⟩
theorem vx_callSX (X : Stand p l e R s m args below meth c T locs cells slots) (hexec : p.tables.exec = Jvm.exec) {own : String} {index : Nat} {y : MethodName} {bytes : ByteArray} {maxL : Nat} {ret : Option FieldType} {hh : List (Nat × Nat × Nat × Nat)}
    (hown : s.vm.findClass own = some m.cls) (hlink : (Cond.methodLink own index y).before args s = true) (hstat : (Cond.static y).before args s = true) (hinit : (Cond.initialized y.cls).before args s = true)
    (hcode : (Cond.codeWith y bytes maxL ret hh).before args s = true) (hy : y.cls ≠ "java/lang/invoke/MethodHandle" ∧ y.cls ≠ "java/lang/invoke/VarHandle")
    {W9 : Nat} {Pre : Pt → Array Value → Prop} {Post : Pt → Array Value → Option Value → Pt → Prop} {PostX : Pt → Array Value → Addr → Pt → Prop} (hK : vx_Back l R p e below s args y 3 W9 Pre Post PostX)
    {g : JFrame} (hg : g.method = m) (hsize : g.locals.size = c.maxLocals) {argsL rest : List Value} (hlen : ∀ sig, parseMethodDescriptor y.desc = some sig → argsL.length = sig.parameters.length)
    (hstack : g.stack = argsL.reverse ++ rest) (hW : 2 * g.monitorRoom + (rest.map fun v => v.category).sum ≤ W9) (hdg : decode c.code g.pc = .ok (.invokestatic index, 3))
    (hpre : ∀ vm₁, s.WarmedH vm₁ → Pre ⟨T.setVm vm₁, locs, cells, slots⟩ argsL.toArray) :
    (∃ (v : Option Value) (vm₁ : Vm) (B : Pt), s.WarmedH vm₁ ∧ Stand p l e R s m args below meth c B.U B.locs B.cells B.slots ∧ Post ⟨T.setVm vm₁, locs, cells, slots⟩ argsL.toArray v B ∧
      ∀ target, Steps p.tables e below (B.U.setTop { g with pc := g.pc + 3, stack := v.toList ++ rest }) target → Steps p.tables e below (T.setTop g) target) ∨
    (∃ (q : Addr) (vm₁ : Vm) (B : Pt), s.WarmedH vm₁ ∧ Stand p l e R s m args below meth c B.U B.locs B.cells B.slots ∧ PostX ⟨T.setVm vm₁, locs, cells, slots⟩ argsL.toArray q B ∧
      Steps p.tables e below (T.setTop g) ((B.U.setTop { g with stack := rest }).pushFrame (.throwing q))) := by
  obtain ⟨mk, methM, cM, hnamed, hmethM, -, -, -, -, -, -, hsigM⟩ := Cond.codeWith_spec hcode
  have hstatic : methM.isStatic = true := Cond.static_spec hnamed hmethM hstat
  obtain ⟨kP, hkP, -⟩ := className_of_methodNamed hnamed
  have hinitP : kP.init = .initialized := Cond.initialized_spec (findClass_of_methodNamed hnamed) hkP hinit
  obtain ⟨vm₁, X₁, hstep₁⟩ := X.invokestatic hexec hown hlink hnamed hmethM hstatic hkP hinitP hy (g := g) hg (argsL := argsL) (rest := rest) (hlen _ hsigM) hstack hdg
  rcases hK m meth c ⟨T.setVm vm₁, locs, cells, slots⟩ { g with stack := rest } (.invokestatic index) mk argsL.toArray X₁ hg hsize hdg hW (X₁.named hnamed) (hpre vm₁ X₁.warmed) with ⟨v, B, X', hpost, hsteps⟩ | ⟨q, B, X', hpost, hsteps⟩
  · exact Or.inl ⟨v, vm₁, B, X₁.warmed, X', hpost, fun target h => hstep₁ _ fun acts => by rw [doInvoke_state]; exact hsteps.trans h⟩
  · exact Or.inr ⟨q, vm₁, B, X₁.warmed, X', hpost, hstep₁ _ fun acts => by rw [doInvoke_state]; exact hsteps⟩
theorem vx_callVW (X : Stand p l e R s m args below meth c T locs cells slots) (hexec : p.tables.exec = Jvm.exec) {own C : String} {index : Nat} {y : MethodName} {bytes : ByteArray} {maxL : Nat} {ret : Option FieldType} {hh : List (Nat × Nat × Nat × Nat)}
    (hown : s.vm.findClass own = some m.cls) (hlink : (Cond.methodLink own index y).before args s = true) (hinst : (Cond.instanceMethod y).before args s = true) (hsel : (Cond.selects C y y).before args s = true)
    (hcode : (Cond.codeWith y bytes maxL ret hh).before args s = true) (hy : y.cls ≠ "java/lang/invoke/MethodHandle" ∧ y.cls ≠ "java/lang/invoke/VarHandle")
    {W9 : Nat} {Pre : Pt → Array Value → Prop} {Post : Pt → Array Value → Option Value → Pt → Prop} (hK : Back l R p e below s args y 3 W9 Pre Post)
    {b : Addr} {cellB : Cell} (hcell : T.heap[b]? = some cellB) (hobj : cellB.vm.isStatics = false) (hcls : s.vm.findClass C = some cellB.cls)
    {g : JFrame} (hg : g.method = m) (hsize : g.locals.size = c.maxLocals) {argsL rest : List Value} (hlen : ∀ sig, parseMethodDescriptor y.desc = some sig → argsL.length = sig.parameters.length)
    (hstack : g.stack = argsL.reverse ++ .ref b :: rest) (hW : 2 * g.monitorRoom + (rest.map fun v => v.category).sum ≤ W9) (hdg : decode c.code g.pc = .ok (.invokevirtual index, 3))
    (hpre : ∀ vm₁, s.WarmedH vm₁ → Pre ⟨T.setVm vm₁, locs, cells, slots⟩ (Value.ref b :: argsL).toArray) :
    ∃ (v : Option Value) (vm₁ : Vm) (B : Pt), s.WarmedH vm₁ ∧ Stand p l e R s m args below meth c B.U B.locs B.cells B.slots ∧ Post ⟨T.setVm vm₁, locs, cells, slots⟩ (Value.ref b :: argsL).toArray v B ∧
      ∀ target, Steps p.tables e below (B.U.setTop { g with pc := g.pc + 3, stack := v.toList ++ rest }) target → Steps p.tables e below (T.setTop g) target := by
  obtain ⟨mk, methM, hnamed, hmethM, hstM, habM⟩ := Cond.instanceMethod_spec hinst
  obtain ⟨m8, methM', cM, hn8, hmethM', -, -, -, -, -, -, hsigM⟩ := Cond.codeWith_spec hcode
  cases Option.some.inj (hn8.symm.trans hnamed)
  cases hmethM.symm.trans hmethM'
  obtain ⟨c2, r2, m2, q1, q2, q3, q4, kP, hkP, hkPi⟩ := Cond.selects_spec hsel
  cases hcls.symm.trans q1
  cases (State.methodFound?_of_named hnamed hy).symm.trans q2
  cases hnamed.symm.trans q3
  have hselP : selectMethod e.platform s.vm cellB.cls mk = .method mk := by rw [Launch.admits_selectMethod X.admits]; exact q4
  obtain ⟨vm₁, X₁, hstep₁⟩ := X.invokevirtual hexec hown hlink hnamed hmethM hstM hkP hkPi hy (a := b) (cell := cellB) hcell
    (fun z h => by rw [h] at hobj; cases hobj) hselP hmethM habM hkP hkPi (g := g) hg (argsL := argsL) (rest := rest) (hlen _ hsigM) hstack hdg
  obtain ⟨v, B, X', hpost, hsteps⟩ := hK m meth c ⟨T.setVm vm₁, locs, cells, slots⟩ { g with stack := rest } (.invokevirtual index) mk (Value.ref b :: argsL).toArray X₁ hg hsize hdg hW (X₁.named hnamed) (hpre vm₁ X₁.warmed)
  exact ⟨v, vm₁, B, X₁.warmed, X', hpost, fun target h => hstep₁ _ fun acts => by rw [doInvoke_state]; exact hsteps.trans h⟩
abbrev vx_CVW (R : Room) (s : State) (args : Array Value) (own C : String) (index : Nat) (y : MethodName) (bytes : ByteArray) (maxL : Nat) (ret : Option FieldType) (hh : List (Nat × Nat × Nat × Nat)) (ws : List Cond) (rm : Room) (mc ms n : Nat) : Prop :=
  (rm.cells = mc ∧ rm.slots = ms ∧ rm.frames + 1 ≤ R.frames ∧ 8 + (maxL + 11) + rm.locals ≤ R.locals ∧ (∀ w ∈ ws, ∀ (a' : Array Value) (U : State), s.WarmedH U.vm → w.before a' U = true) ∧ Cond.codeWith y bytes maxL ret hh ∈ ws) ∧
  (Cond.codeWith y bytes maxL ret hh).before args s = true ∧ (Cond.initialized y.cls).before args s = true ∧ (y.cls ≠ "java/lang/invoke/MethodHandle" ∧ y.cls ≠ "java/lang/invoke/VarHandle") ∧
  (∀ sig, parseMethodDescriptor y.desc = some sig → n = sig.parameters.length) ∧ (Cond.methodLink own index y).before args s = true ∧ (Cond.instanceMethod y).before args s = true ∧ (Cond.selects C y y).before args s = true
theorem vx_cwVW {own C : String} {index maxL mc ms : Nat} {y : MethodName} {bytes : ByteArray} {ret : Option FieldType} {hh : List (Nat × Nat × Nat × Nat)} {Ts ws ws' : List Cond} {rm : Room} (n : Nat) (ht : ∀ w ∈ Ts, w.before args s = true) (hT : GoodIn Ts (wsV own index C y ws)) (hw : ws = Cond.codeWith y bytes maxL ret hh :: ws') (hrc : rm.cells = mc) (hrs : rm.slots = ms)
    (hd : y.cls = C ∧ y.cls ≠ "java/lang/invoke/MethodHandle" ∧ y.cls ≠ "java/lang/invoke/VarHandle" ∧ (parseMethodDescriptor y.desc).map (fun d => d.parameters.length) = some n) (hR : rm.frames + 1 ≤ R.frames ∧ 8 + (maxL + 11) + rm.locals ≤ R.locals) :
    vx_CVW R s args own C index y bytes maxL ret hh ws rm mc ms n := by
  obtain ⟨hC, hd⟩ := hd
  subst hC
  have ok : ∀ w ∈ wsV own index y.cls y ws, w.before args s = true := fun w h => ht w (hT w h).1
  have hG : GoodIn Ts ws := fun w h => hT w (by unfold wsV; exact List.mem_append_right _ h)
  have hc : Cond.codeWith y bytes maxL ret hh ∈ ws := by rw [hw]; exact List.mem_cons_self
  refine ⟨⟨hrc, hrs, hR.1, hR.2, pay_in ht hG, hc⟩, ht _ (hG _ hc).1, ok _ (by simp [wsV]), ⟨hd.1, hd.2.1⟩, fun sig h => ?_, ok _ (by simp [wsV]), ok _ (by simp [wsV]), ok _ (by simp [wsV])⟩
  have h2 := hd.2.2
  rw [h] at h2
  exact (Option.some.inj h2).symm
theorem vx_runVW {y : MethodName} {bytes cc : ByteArray} {maxL nL mc ms n index : Nat} {ret : Option FieldType} {hh : List (Nat × Nat × Nat × Nat)} {ws : List Cond} {rm : Room} {Pc : Array Value → State → Prop} {Qc : Array Value → State → Outcome → State → Prop} {free : Addr → Prop} {Ts : List Cond} {own C : String} {b : Addr} {As rest : List Value} {g : JFrame}
    (S : CallFix p m c cc nL s args Ts own) (hM : Met l y ws rm Pc Qc mc ms free) (cw : vx_CVW R s args own C index y bytes maxL ret hh ws rm mc ms n) (hp : PreV s H C b Pc As)
    (hg : g.method = m) (hn : As.length = n) (hsize : g.locals.size = nL) (hstack : g.stack = As.reverse ++ .ref b :: rest) (hW : 2 * g.monitorRoom + (rest.map fun v => v.category).sum ≤ 8) (hdg : decode cc g.pc = .ok (.invokevirtual index, 3)) (hf : cells + mc ≤ R.cells ∧ slots + ms ≤ R.slots) :
    va_Run p l e R s m args below meth c H locs cells slots mc ms g rest (Qc (Value.ref b :: As).toArray) free := by
  obtain ⟨⟨hrc, hrs, hfr, hlo, hws, hcw⟩, hcode, hini, hy, hlen, hl, hin, hse⟩ := cw
  have hK : Back l R p e below s args y 3 8 (PreOf R mc ms Pc) (PostOf Qc mc ms free) := va_backW (hh := hh) (bytes := bytes) (maxL := maxL) (ret := ret) hM hp.1 hrc hrs hfr hlo hws hcw (fun a' U hW => word_at hW (Or.inl (by first | rfl | simp [Cond.onTables, Cond.keeps, Cond.steady])) hini)
  obtain ⟨hx, hb, hml, ho, -⟩ := S
  obtain ⟨-, ⟨cellB, hcB, hoB, hclB⟩, hPc⟩ := hp
  intro T hT X
  obtain ⟨v, vm₁, ⟨U', l2, c2, s2⟩, hW₁, X', ⟨g', mk, t, L, e1, e2, hq, h1, hL, h2, h3⟩, st⟩ := vx_callVW X hx (C := C) (hh := hh) (bytes := bytes) (maxL := maxL) (ret := ret) ho hl hin hse hcode hy hK (by rw [hT]; exact hcB) hoB hclB hg (hsize.trans hml.symm) (argsL := As) (rest := rest) (fun sig h => hn.trans (hlen sig h)) hstack hW (by rw [hb]; exact hdg)
    (fun vm₁ hW₁ => ⟨hf.1, hf.2, hPc (T.setVm vm₁) hT hW₁⟩)
  dsimp only [Pt.U, Pt.locs, Pt.cells, Pt.slots] at X' e1 e2 h1 h2 h3 st
  subst h1; subst h2; subst h3
  exact ⟨v, (T.setVm vm₁).calling g' mk (Value.ref b :: As).toArray, t, U', L, hT, X', hL, e1, e2, hq, st⟩
section
variable {y : MethodName} {bytes cc : ByteArray} {maxL nL mc ms n index : Nat} {ret : Option FieldType} {ws : List Cond} {rm : Room} {Pc : Array Value → State → Prop} {Qc : Array Value → State → Outcome → State → Prop} {XC : String → State → State → Prop} {free : Addr → Prop} {Ts : List Cond} {own C : String} {b : Addr} {As rest : List Value} {g : JFrame}
theorem vx_runVX {hh : List (Nat × Nat × Nat × Nat)} (S : CallFix p m c cc nL s args Ts own) (hM : vx_Met l y ws rm Pc Qc XC mc ms free) (cw : vx_CVW R s args own C index y bytes maxL ret hh ws rm mc ms n) (hp : PreV s H C b Pc As)
    (hg : g.method = m) (hn : As.length = n) (hsize : g.locals.size = nL) (hstack : g.stack = As.reverse ++ .ref b :: rest) (hW : 2 * g.monitorRoom + (rest.map fun v => v.category).sum ≤ 8) (hdg : decode cc g.pc = .ok (.invokevirtual index, 3)) (hf : cells + mc ≤ R.cells ∧ slots + ms ≤ R.slots) :
    vx_Run p l e R s m args below meth c H locs cells slots mc ms g rest (Qc (Value.ref b :: As).toArray) XC free := by
  obtain ⟨⟨hrc, hrs, hfr, hlo, hws, hcw⟩, hcode, hini, hy, hlen, hl, hin, hse⟩ := cw
  have hK : vx_Back l R p e below s args y 3 8 (PreOf R mc ms Pc) (PostOf Qc mc ms free) (vx_Post XC mc ms free) := vx_backW (hh := hh) (bytes := bytes) (maxL := maxL) (ret := ret) hM hp.1 hrc hrs hfr hlo hws hcw (fun a' U hW => word_at hW (Or.inl (by first | rfl | simp [Cond.onTables, Cond.keeps, Cond.steady])) hini)
  obtain ⟨hx, hb, hml, ho, -⟩ := S
  obtain ⟨-, ⟨cellB, hcB, hoB, hclB⟩, hPc⟩ := hp
  intro T hT X
  rcases vx_callVX X hx (C := C) (hh := hh) (bytes := bytes) (maxL := maxL) (ret := ret) ho hl hin hse hcode hy hK (by rw [hT]; exact hcB) hoB hclB hg (hsize.trans hml.symm) (argsL := As) (rest := rest) (fun sig h => hn.trans (hlen sig h)) hstack hW (by rw [hb]; exact hdg)
    (fun vm₁ hW₁ => ⟨hf.1, hf.2, hPc (T.setVm vm₁) hT hW₁⟩) with ⟨v, vm₁, ⟨U', l2, c2, s2⟩, hW₁, X', ⟨g', mk, t, L, e1, e2, hq, h1, hL, h2, h3⟩, st⟩ | ⟨q, vm₁, ⟨U', l2, c2, s2⟩, hW₁, X', ⟨g', mk, t, L, E, ce, e1, e2, hq, hce, hcv, hcl, h1, hL, h2, h3⟩, st⟩
  · dsimp only [Pt.U, Pt.locs, Pt.cells, Pt.slots] at X' e1 e2 h1 h2 h3 st
    subst h1; subst h2; subst h3
    exact Or.inl ⟨v, (T.setVm vm₁).calling g' mk (Value.ref b :: As).toArray, t, U', L, hT, X', hL, e1, e2, hq, st⟩
  · dsimp only [Pt.U, Pt.locs, Pt.cells, Pt.slots] at X' e1 e2 h1 h2 h3 st hcl
    subst h1; subst h2; subst h3
    exact Or.inr ⟨q, (T.setVm vm₁).calling g' mk (Value.ref b :: As).toArray, t, U', L, E, ce, hT, X', hL, e1, e2, hq, hce, hcv, vx_cls hW₁ hcl, st⟩
theorem vx_runSX {hh : List (Nat × Nat × Nat × Nat)} (S : CallFix p m c cc nL s args Ts own) (hM : vx_Met l y ws rm Pc Qc XC mc ms free) (cw : vx_CSW R s args own index y bytes maxL ret hh ws rm mc ms n) (hp : PreS s H Pc As)
    (hg : g.method = m) (hn : As.length = n) (hsize : g.locals.size = nL) (hstack : g.stack = As.reverse ++ rest) (hW : 2 * g.monitorRoom + (rest.map fun v => v.category).sum ≤ 8) (hdg : decode cc g.pc = .ok (.invokestatic index, 3)) (hf : cells + mc ≤ R.cells ∧ slots + ms ≤ R.slots) :
    vx_Run p l e R s m args below meth c H locs cells slots mc ms g rest (Qc As.toArray) XC free := by
  obtain ⟨⟨hrc, hrs, hfr, hlo, hws, hcw⟩, hcode, hini, hy, hlen, hl, hstt⟩ := cw
  have hK : vx_Back l R p e below s args y 3 8 (PreOf R mc ms Pc) (PostOf Qc mc ms free) (vx_Post XC mc ms free) := vx_backW (hh := hh) (bytes := bytes) (maxL := maxL) (ret := ret) hM hp.1 hrc hrs hfr hlo hws hcw (fun a' U hW => word_at hW (Or.inl (by first | rfl | simp [Cond.onTables, Cond.keeps, Cond.steady])) hini)
  obtain ⟨hx, hb, hml, ho, -⟩ := S
  intro T hT X
  rcases vx_callSX X hx (hh := hh) (bytes := bytes) (maxL := maxL) (ret := ret) ho hl hstt hini hcode hy hK hg (hsize.trans hml.symm) (argsL := As) (rest := rest) (fun sig h => hn.trans (hlen sig h)) hstack hW (by rw [hb]; exact hdg)
    (fun vm₁ hW₁ => ⟨hf.1, hf.2, hp.2 (T.setVm vm₁) hT hW₁⟩) with ⟨v, vm₁, ⟨U', l2, c2, s2⟩, hW₁, X', ⟨g', mk, t, L, e1, e2, hq, h1, hL, h2, h3⟩, st⟩ | ⟨q, vm₁, ⟨U', l2, c2, s2⟩, hW₁, X', ⟨g', mk, t, L, E, ce, e1, e2, hq, hce, hcv, hcl, h1, hL, h2, h3⟩, st⟩
  · dsimp only [Pt.U, Pt.locs, Pt.cells, Pt.slots] at X' e1 e2 h1 h2 h3 st
    subst h1; subst h2; subst h3
    exact Or.inl ⟨v, (T.setVm vm₁).calling g' mk As.toArray, t, U', L, hT, X', hL, e1, e2, hq, st⟩
  · dsimp only [Pt.U, Pt.locs, Pt.cells, Pt.slots] at X' e1 e2 h1 h2 h3 st hcl
    subst h1; subst h2; subst h3
    exact Or.inr ⟨q, (T.setVm vm₁).calling g' mk As.toArray, t, U', L, E, ce, hT, X', hL, e1, e2, hq, hce, hcv, vx_cls hW₁ hcl, st⟩
end
end VXH
theorem vx_ofWH {l : Launch} {y : MethodName} {ws ws' : List Cond} {rm : Room} {Pc : Array Value → State → Prop} {Qc : Array Value → State → Outcome → State → Prop} {XC : String → State → State → Prop} {mc ms : Nat} {free : Addr → Prop} {cc : ByteArray} {maxL : Nat} {ret : Option FieldType} {hh : List (Nat × Nat × Nat × Nat)}
    (hy : plainName y.cls = true) (hw : ws = Cond.codeWith y cc maxL ret hh :: ws')
    (body : ∀ p e s m args below meth c s₁, BodyLoose p l y (headSpec ws rm) cc maxL ret e s m args below meth c s₁ → c.maxLocals = maxL → Pc args s →
      W p l e (headSpec ws rm).room s m args below meth c s.heap [] 0 0 (vx_MQ below Qc XC args s mc ms free) (entryFrame m args maxL)) : vx_Met l y ws rm Pc Qc XC mc ms free := by
  refine MetFree.of_bodyS (code := cc) (maxLocals := maxL) (ret := ret) hy ?_ ?_
  · intro args s m h hn
    obtain ⟨m9, meth, c, hn9, h1, h2, h3, h4, -, h5, h6, -⟩ := Cond.codeWith_spec (atoms_spec (ws := ws) h _ (by rw [hw]; exact List.mem_cons_self))
    cases hn.symm.trans hn9
    exact ⟨meth, c, h1, h2, h3, h4, h5, h6⟩
  · intro p e s m args below meth c s₁ B hml hP _
    have hh0 : s₁.heap = s.heap := by rw [B.state]; rfl
    obtain ⟨t, a1, o, b1, b2, b3⟩ := body p e s m args below meth c s₁ B hml hP s₁ hh0 (Stand.of_body B)
    exact ⟨t, o, a1, b1, b2, b3⟩
/-! ===== END ===== -/
/-! ===== BEGIN what the machine throws by itself, no traces kept ===== -/
section VXM
set_option maxHeartbeats 1000000 in
/-- the machine throws cls with the message text, no traces kept: from its note over the frame g to 'throwing' over the same frame (follows the proofs of Stand.vmThrowsMessage, Shelf/KitTracedVmS.lean, and Stand.throwsMessageColdBareV, StandMessageColdV.lean, without the step out of the frame) -/
theorem vx_vmAt {p : Program} {l : Launch} {e : Env} {R : Room} {s : State} {m₀ : MethodId} {args : Array Value} {below : List Frame} {meth : Method} {c : Code} {W : State} {locs : List Loc} {cells slots : Nat}
    (X : Stand p l e R s m₀ args below meth c W locs cells slots) (hexec : p.tables.exec = Jvm.exec) (htr : e.platform.stackTraces = false) {cls : String} {names : List String} {text : String}
    (hcls : Bundle.fit cls = true) (hnames : ∀ n ∈ names, Bundle.fit n = true) (hsoe : (cls == "java/lang/StackOverflowError") = false) (hoom : (cls == "java/lang/OutOfMemoryError") = false)
    (h : ∀ a ∈ Bundle.messageArmAtoms cls names, a.before args s = true)
    (hlocs : ∀ x ∈ locs, ∀ cell, s.heap[x.base]? = some cell → cell.vm.isStatics = false)
    (htext : (text == notModelled) = false) (hlimit : ¬ (stringBytes (stringToUtf16 text)).size > e.platform.arrayLengthLimit) (hheap : ¬ (stringBytes (stringToUtf16 text)).size * componentBytes .byte > e.platform.maxHeapBytes)
    {g : JFrame} (hg : g.method = m₀) (hsize : g.locals.size = c.maxLocals)
    (hRframes : names.length + 4 < R.frames) (hRlocals : 2 * g.monitorRoom + (g.stack.map fun v => v.category).sum + 10240 ≤ R.locals) (hshort : 13 * names.length + 55 ≤ 10240)
    (hRcells : cells + 3 ≤ R.cells) (hRslots : slots + ((stringBytes (stringToUtf16 text)).size + 4 + 6) ≤ R.slots) (hlocks : meth.locks = false) :
    ∃ (S : State) (q : Addr) (ce : Cell), (∀ target, Steps p.tables e below ((S.setTop g).pushFrame (.throwing q)) target → Steps p.tables e below ((W.setTop g).pushFrame (.throwNew cls (some text) none)) target) ∧
      Stand p l e R s m₀ args below meth c S locs (cells + 3) (slots + ((stringBytes (stringToUtf16 text)).size + 4 + 6)) ∧ S.heap[q]? = some ce ∧ s.vm.findClass cls = some ce.cls ∧ ce.vm = .none := by
  have howns : e.platform.frameOwnsMonitors = true := by rw [X.admits.platform]
  have hfin : e.platform.finalization = false := by rw [X.admits.platform]
  have hpl : e.platform.magicAccessors = ({} : Platform).magicAccessors := by rw [X.admits.platform]
  have a : ∀ x, x ∈ Bundle.messageArmAtoms cls names → x.holds args s none s [] = true := fun x hx => h x hx
  obtain ⟨T, Z0, L, -, Y⟩ := ThrowableC.of_atoms (args := args) howns hfin hpl (fun x hx => h x (by simp [Bundle.messageArmAtoms, hx]))
  obtain ⟨Z, M, LZ, LM, hnZ⟩ := Init0T.ofS_atoms (args := args) hpl L Y (fun x hx => h x (by simp [Bundle.messageArmAtoms, hx]))
  obtain ⟨P1, Ps, hlen, L1, hL, hP1m, hlink1, hlink⟩ := Bundle.chainS (args := args) hpl hnZ names cls hcls hnames (fun x hx => h x (by simp [Bundle.messageArmAtoms, hx]))
  obtain ⟨Zs, LZs, hn4, hfitv, hfitc⟩ := StringT.of_atoms (args := args) (fun x hx => h x (by simp [Bundle.messageArmAtoms, hx]))
  have hfound : s.vm.findClass cls = some P1.m.cls := findClass_of_methodNamed hP1m
  obtain ⟨c1, kX, hc1, hk, hord, -, -, hn6⟩ := Cond.instantiable_spec (a (.instantiable cls 6) (by simp [Bundle.messageArmAtoms]))
  cases Option.some.inj (hc1.symm.trans hfound)
  have hinit := Cond.initialized_spec hfound hk (a (.initialized cls) (by simp [Bundle.messageArmAtoms]))
  have hctor : kX.findMethod "<init>" "(Ljava/lang/String;)V" = some P1.m.idx := findMethod_of_methodNamed hP1m hk
  have hsel0 : selectMethod e.platform s.vm P1.m.cls T.fill0 = .method T.fill0 := by
    obtain ⟨c2, r2, m2, q1, q2, q3, q4, -⟩ := Cond.selects_spec (a (.selects cls Bundle.tFill0 Bundle.tFill0) (by simp [Bundle.messageArmAtoms]))
    cases Option.some.inj (q1.symm.trans hfound)
    cases Option.some.inj (q2.symm.trans (State.methodFound?_of_named Y.fill0 (by decide)))
    cases Option.some.inj (q3.symm.trans Y.fill0)
    rw [Launch.admits_selectMethod X.admits]; exact q4
  have hselF : selectMethod e.platform s.vm P1.m.cls T.fill = .method T.fill := by
    obtain ⟨c2, r2, m2, q1, q2, q3, q4, -⟩ := Cond.selects_spec (a (.selects cls Bundle.tFill Bundle.tFill) (by simp [Bundle.messageArmAtoms]))
    cases Option.some.inj (q1.symm.trans hfound)
    cases Option.some.inj (q2.symm.trans (State.methodFound?_of_named Y.fill (by decide)))
    cases Option.some.inj (q3.symm.trans Y.fill)
    rw [Launch.admits_selectMethod X.admits]; exact q4
  obtain ⟨cellS0, hcS0, hiss⟩ := Y.statics
  obtain ⟨u0, hu0⟩ := Cond.staticRefV Y.unassigned L.unassignedStatic L.statics hcS0 hiss (a (.isRef (.static Bundle.tN "UNASSIGNED_STACK" Bundle.steD)) (by simp [Bundle.messageArmAtoms]))
  obtain ⟨sen, hsen⟩ := Cond.staticRefV Y.sentinel L.sentinelStatic L.statics hcS0 hiss (a (.isRef (.static Bundle.tN "SUPPRESSED_SENTINEL" Bundle.listD)) (by simp [Bundle.messageArmAtoms]))
  obtain ⟨ci198, i198, fB, hk198, hg198, ha198, hsB, -, hnB, htB, hffB⟩ := Cond.ownField (t := .object "java/lang/Object") Y.found L.cls (by decide +kernel) (a (.fieldLink Bundle.tN 198 Bundle.tN "backtrace" "Ljava/lang/Object;") (by simp [Bundle.messageArmAtoms])) (a (.lays Bundle.tN Bundle.tN "backtrace" "Ljava/lang/Object;") (by simp [Bundle.messageArmAtoms])) e.platform hpl
  obtain ⟨cellS, hcS', heS, -, hkeep⟩ := X.same.2.2.2.2.2 T.aS cellS0 hcS0
  have hcellS : W.heap[T.aS]? = some cellS := hcS'
  have hout' : ∀ i, (⟨T.aS, i⟩ : Loc) ∉ locs := fun i hmem => by
    have := hlocs _ hmem cellS0 hcS0
    rw [hiss] at this; cases this
  have hknownS : cellS.vm ≠ .unknown := by
    rw [heS]; intro hu
    rw [show cellS0.vm = .unknown from hu] at hiss
    cases hiss
  have hvU : cellS.slots[T.fUnassigned.slot]? = some u0.v := by rw [hkeep _ (hout' _)]; exact hu0
  have hvSen : cellS.slots[T.fSentinel.slot]? = some sen.v := by rw [hkeep _ (hout' _)]; exact hsen
  obtain ⟨iM, hffM⟩ := Y.msg
  obtain ⟨tyC, dC, hdC, hdnC⟩ := Cond.laysAt hfound hk Y.cause (a (.lays cls Bundle.tN "cause" "Ljava/lang/Throwable;") (by simp [Bundle.messageArmAtoms]))
  obtain ⟨tyS, dS, hdS, hdnS⟩ := Cond.laysAt hfound hk Y.stack (a (.lays cls Bundle.tN "stackTrace" Bundle.steD) (by simp [Bundle.messageArmAtoms]))
  obtain ⟨tyP, dP, hdP, hdnP⟩ := Cond.laysAt hfound hk Y.supp (a (.lays cls Bundle.tN "suppressedExceptions" Bundle.listD) (by simp [Bundle.messageArmAtoms]))
  obtain ⟨tyM, dM, hdM, hdnM⟩ := Cond.laysAt hfound hk hffM (a (.lays cls Bundle.tN "detailMessage" "Ljava/lang/String;") (by simp [Bundle.messageArmAtoms]))
  obtain ⟨tyB, dB, hdB, hdnB⟩ := Cond.laysAt hfound hk hffB (a (.lays cls Bundle.tN "backtrace" "Ljava/lang/Object;") (by simp [Bundle.messageArmAtoms]))
  have bC := Cond.laysApart hdB hdC hdnB hdnC (by rw [hnB, Y.causeName]; decide)
  have bS := Cond.laysApart hdB hdS hdnB hdnS (by rw [hnB, Y.stackName]; decide)
  have bP := Cond.laysApart hdB hdP hdnB hdnP (by rw [hnB, Y.suppName]; decide)
  have hbk : ((preparedCellV T.toThrowableT (freshCell P1.m.cls kX) (W.heap.size + 2) u0 sen).withEntry W.cur).slots[fB.slot]? = some .null := by
    have := fresh_default (c := P1.m.cls) tyB
    rw [htB] at this
    simpa [preparedCellV, Cell.setSlot, Cell.withEntry, Array.getElem?_setIfInBounds, bC, bS, bP, bC.symm, bS.symm, bP.symm, defaultValue] using this
  have tkC := Takes.of_laid (v := .ref (W.heap.size + 2)) hk hord tyC (by rw [Y.causeType]; rfl)
  have tkS := Takes.of_laid (v := u0.v) hk hord tyS (by rw [Y.stackType]; exact fits_refV_array _ u0)
  have tkP := Takes.of_laid (v := sen.v) hk hord tyP (by rw [Y.suppType]; exact fits_refV_object _ sen)
  have tkM := Takes.of_laid (v := .ref (W.heap.size + 1)) hk hord tyM (by rw [Y.msgType]; rfl)
  have hskip : SkipFacts T e.platform s (fun u => u) u0 ((preparedCellV T.toThrowableT (freshCell P1.m.cls kX) (W.heap.size + 2) u0 sen).withEntry W.cur) := ⟨{ ci198 := ci198, i198 := i198, fBack := fB }, ⟨hk198, hg198, ha198, hsB⟩, hbk, fun _ _ => rfl⟩
  have h0 : At W g.method c below := by rw [hg]; exact X.here
  obtain ⟨hbeyond, hfreeW⟩ := X.vmMayThrow hsize (.throwNew cls (some text) none) (fun f hf => by cases hf) rfl hRlocals
  have hfr' : W.frames.length + Ps.length + 4 < (e.platform.stackLimits W.me).1 := by have := X.framesAbove hRframes; omega
  have hwd' : (stackUse (.java g :: W.frames.tail)).2 + 13 * Ps.length + 55 ≤ (e.platform.stackLimits W.me).2 := by have := X.stackAbove hsize (K := 13 * Ps.length + 55) (by omega); omega
  have hslots : W.slotsUsed + (stringBytes (stringToUtf16 text)).size + Zs.kS.instanceTypes.size + kX.instanceTypes.size ≤ e.platform.maxSlots := by
    have := X.slotsAbove hRslots
    rw [hn4, hn6]
    omega
  obtain ⟨vm', hW', st⟩ := Steps.vmThrowsMessageColdByV p (s₀ := s) (S := W) (g := g) h0 hexec T L Z LZ M LM X.warmed (t := W.cur) rfl Zs LZs P1 L1 Ps hL hlink1 hlink hsoe hoom hfound hk hinit hord hctor
    (Launch.admits_hotImplicitExceptions X.admits) hbeyond hfreeW htext hlimit hheap (X.cellsAbove hRcells) hslots (hfitv _) (hfitc _)
    (Nn := fun u => u) heapOnly_id (fun _ _ => rfl) (fun _ => rfl) (fun u x y => setCell_twice _ _ _ _) (fun _ => Nat.le_refl _) (cN := ((preparedCellV T.toThrowableT (freshCell P1.m.cls kX) (W.heap.size + 2) u0 sen).withEntry W.cur))
    hsel0 hcellS hknownS hvU tkS (fun _ hu => hu) (fun _ hu => hu) rfl rfl rfl (by simp [preparedCellV, Cell.setSlot, Cell.withEntry]) hskip (fun _ _ hA hW _ hroom _ hrest => L.nativeOff p htr hA hW hroom hrest) hselF hvSen tkC tkP tkM Y.objLocals rfl hfr' hwd'
  rw [plainBareV_eq T.toThrowableT (W.heap.size + 2) u0 sen (.ref (W.heap.size + 1)) W.cur rfl rfl] at st
  obtain ⟨-, -, w3, w4, -, -, -⟩ := withThrown_facts e.platform W Zs text P1.m.cls kX
  have X3 := ((X.pushed (bytesOf Zs.cB (stringToUtf16 text))).pushed (stringAt Zs.cS Zs.kS Zs.fv Zs.fc (stringToUtf16 text) W.heap.size)).pushed (freshCell P1.m.cls kX)
  rw [← withString_eq] at X3
  have X4 := X3.noted hW'
  have ha : (W.heap.size + 2) < ((withThrown W Zs text P1.m.cls kX).setVm vm').heap.size := by show _ < (withThrown W Zs text P1.m.cls kX).heap.size; rw [w3]; omega
  have hcell : ((withThrown W Zs text P1.m.cls kX).setVm vm').heap[(W.heap.size + 2)]? = some (freshCell P1.m.cls kX) := w4
  have X5 := ((((X4.stored hcell T.fCause.slot (.ref (W.heap.size + 2))).storedAgain ha T.fStack.slot u0.v).storedAgain ha T.fSupp.slot sen.v).storedAgain ha T.fStack.slot u0.v).storedAgain ha T.fMsg.slot (.ref (W.heap.size + 1))
  obtain ⟨g₁, hfrM⟩ := X5.frames_eq
  have hU : ((((withThrown W Zs text P1.m.cls kX).setVm vm').setCell (W.heap.size + 2) (plainBareV T.toThrowableT (freshCell P1.m.cls kX) (W.heap.size + 2) u0 sen (.ref (W.heap.size + 1)))).setTop g).pushFrame (.throwing (W.heap.size + 2)) = (((withThrown W Zs text P1.m.cls kX).setVm vm').setCell (W.heap.size + 2) (plainBareV T.toThrowableT (freshCell P1.m.cls kX) (W.heap.size + 2) u0 sen (.ref (W.heap.size + 1)))).setFrames (.throwing (W.heap.size + 2) :: .java g :: below) := by
    rw [State.pushFrame, State.frames_setTop _ hfrM, State.setTop_of_frames _ hfrM, State.setFrames_setFrames]
  have b1 : (bytesOf Zs.cB (stringToUtf16 text)).slots.size = (stringBytes (stringToUtf16 text)).size := by
    rw [(Cell.writeAll_facts _ _).2.2]; simp [bytes0]
  have b2 : (stringAt Zs.cS Zs.kS Zs.fv Zs.fc (stringToUtf16 text) W.heap.size).slots.size = 4 := by simp [string0, Cell.setSlot, hn4]
  have b3 : (freshCell P1.m.cls kX).slots.size = 6 := by simp [hn6]
  rw [b1, b2, b3] at X5
  have e9 : slots + (stringBytes (stringToUtf16 text)).size + 4 + 6 = slots + ((stringBytes (stringToUtf16 text)).size + 4 + 6) := by omega
  rw [e9] at X5
  simp only [List.append_assoc, List.cons_append, List.nil_append] at X5
  refine ⟨((withThrown W Zs text P1.m.cls kX).setVm vm').setCell (W.heap.size + 2) (plainBareV T.toThrowableT (freshCell P1.m.cls kX) (W.heap.size + 2) u0 sen (.ref (W.heap.size + 1))), W.heap.size + 2, _, fun target ht => st _ (by rw [X.tail, ← hU]; exact ht),
    X5.forget (fun y hy => ?_), heapAt_setCell_self _ ha, hfound, rfl⟩
  simp only [List.mem_cons, List.not_mem_nil, or_false] at hy
  have hge : s.heap.size ≤ W.heap.size := X.same.2.1
  rcases hy with rfl | rfl | rfl | rfl | rfl <;> exact Nat.le_trans hge (Nat.le_add_right _ 2)
set_option maxHeartbeats 1000000 in
/-- the machine throws NullPointerException, no traces kept: from its note over the frame g to 'throwing' over the same frame (follows the proof of Stand.vmThrowsNpe, Shelf42/KT2.lean; throwsNpeColdBareVAt, Shelf42/NT91.lean, called) -/
theorem vx_npeAt {p : Program} {l : Launch} {e : Env} {R : Room} {s : State} {m₀ : MethodId} {args : Array Value} {below : List Frame} {meth : Method} {c : Code} {W : State} {locs : List Loc} {cells slots : Nat}
    (X : Stand p l e R s m₀ args below meth c W locs cells slots) (hexec : p.tables.exec = Jvm.exec) (htr : e.platform.stackTraces = false) {n : Nat}
    (h : ∀ a ∈ Bundle.npeArmAtoms n, a.before args s = true)
    (hlocs : ∀ x ∈ locs, ∀ cell, s.heap[x.base]? = some cell → cell.vm.isStatics = false)
    {g : JFrame} (hg : g.method = m₀) (hsize : g.locals.size = c.maxLocals)
    (hRframes : 7 < R.frames) (hRlocals : 2 * g.monitorRoom + (g.stack.map fun v => v.category).sum + 10240 ≤ R.locals)
    (hRcells : cells + 1 ≤ R.cells) (hRslots : slots + n ≤ R.slots) (hlocks : meth.locks = false) :
    ∃ (S : State) (q : Addr) (ce : Cell), (∀ target, Steps p.tables e below ((S.setTop g).pushFrame (.throwing q)) target → Steps p.tables e below ((W.setTop g).pushFrame (.throwNew "java/lang/NullPointerException" none none)) target) ∧
      Stand p l e R s m₀ args below meth c S locs (cells + 1) (slots + n) ∧ S.heap[q]? = some ce ∧ s.vm.findClass "java/lang/NullPointerException" = some ce.cls ∧ ce.vm = .none := by
  have howns : e.platform.frameOwnsMonitors = true := by rw [X.admits.platform]
  have hfin : e.platform.finalization = false := by rw [X.admits.platform]
  have hpl : e.platform.magicAccessors = ({} : Platform).magicAccessors := by rw [X.admits.platform]
  have hpl2 : e.platform.arrayCloneIsPublic = true := by rw [X.admits.platform]
  have a' : ∀ x, x ∈ Bundle.npeArmAtoms n → x.holds args s none s [] = true := fun x hx => h x hx
  obtain ⟨T, Z, L, LZ, Y⟩ := ThrowableC.of_atoms (args := args) howns hfin hpl (fun x hx => h x (by simp [Bundle.npeArmAtoms, hx]))
  obtain ⟨N, LN, hcN, hnNF, hordN, hffS⟩ := NpeC.of_atoms (args := args) hpl hpl2 L Y (fun x hx => h x (by simp [Bundle.npeArmAtoms, hx]))
  obtain ⟨P1, L1, hP1m, hP1s⟩ := PassC.of_atoms (args := args) (s := s) hpl (X := Bundle.nN) (Y := Bundle.rN) (by decide) (by decide) LibCode.NullPointerException.Init0.at_0 LibCode.NullPointerException.Init0.at_1 LibCode.NullPointerException.Init0.at_4 (fun x hx => h x (by simp [Bundle.npeArmAtoms, hx]))
  obtain ⟨PR, LR, hPRm, hPRs⟩ := PassC.of_atoms (args := args) (s := s) hpl (X := Bundle.rN) (Y := Bundle.eN) (by decide) (by decide) LibCode.RuntimeException.Init0.at_0 LibCode.RuntimeException.Init0.at_1 LibCode.RuntimeException.Init0.at_4 (fun x hx => h x (by simp [Bundle.npeArmAtoms, hx]))
  obtain ⟨PE, LEx, hPEm, hPEs⟩ := PassC.of_atoms (args := args) (s := s) hpl (X := Bundle.eN) (Y := Bundle.tN) (by decide) (by decide) LibCode.Exception.Init0.at_0 LibCode.Exception.Init0.at_1 LibCode.Exception.Init0.at_4 (fun x hx => h x (by simp [Bundle.npeArmAtoms, hx]))
  have hfound : s.vm.findClass Bundle.nN = some P1.m.cls := findClass_of_methodNamed hP1m
  have ecls : N.cN = P1.m.cls := Option.some.inj (hcN.symm.trans hfound)
  have hk : s.vm.classes[P1.m.cls]? = some N.kN := by rw [← ecls]; exact LN.cls
  have hinit := Cond.initialized_spec hfound hk (a' (.initialized Bundle.nN) (by simp [Bundle.npeArmAtoms]))
  have hctor : N.kN.findMethod "<init>" "()V" = some P1.m.idx := findMethod_of_methodNamed hP1m hk
  obtain ⟨c1, k1, hc1, hk1, -, -, -, hn⟩ := Cond.instantiable_spec (a' (.instantiable Bundle.nN n) (by simp [Bundle.npeArmAtoms]))
  cases Option.some.inj (hc1.symm.trans hfound)
  cases Option.some.inj (hk1.symm.trans hk)
  have hfsz : (freshCell P1.m.cls N.kN).slots.size = n := by simp [hn]
  have hlink1 : P1.sup = PR.m := Option.some.inj (hP1s.symm.trans hPRm)
  have hlinkR : PR.sup = PE.m := Option.some.inj (hPRs.symm.trans hPEm)
  have hlinkE : PE.sup = Z.m T.toThrowableT := Option.some.inj (hPEs.symm.trans Y.init0)
  have hLs : ∀ P, P ∈ [PR, PE] → P.Links0 e.platform s := fun P hP => by
    simp only [List.mem_cons, List.not_mem_nil, or_false] at hP
    rcases hP with rfl | rfl
    · exact LR
    · exact LEx
  have hsel0 : selectMethod e.platform s.vm P1.m.cls T.fill0 = .method T.fill0 := by
    obtain ⟨c2, r2, m2, q1, q2, q3, q4, -⟩ := Cond.selects_spec (a' (.selects Bundle.nN Bundle.tFill0 Bundle.tFill0) (by simp [Bundle.npeArmAtoms]))
    cases Option.some.inj (q1.symm.trans hfound)
    cases Option.some.inj (q2.symm.trans (State.methodFound?_of_named Y.fill0 (by decide)))
    cases Option.some.inj (q3.symm.trans Y.fill0)
    rw [Launch.admits_selectMethod X.admits]; exact q4
  have hselF : selectMethod e.platform s.vm P1.m.cls T.fill = .method N.fill := by
    obtain ⟨c2, r2, m2, q1, q2, q3, q4, -⟩ := Cond.selects_spec (a' (.selects Bundle.nN Bundle.tFill Bundle.nFill) (by simp [Bundle.npeArmAtoms]))
    cases Option.some.inj (q1.symm.trans hfound)
    cases Option.some.inj (q2.symm.trans (State.methodFound?_of_named Y.fill (by decide)))
    cases Option.some.inj (q3.symm.trans hnNF)
    rw [Launch.admits_selectMethod X.admits]; exact q4
  obtain ⟨cellS0, hcS0, hiss⟩ := Y.statics
  obtain ⟨u0, hu0⟩ := Cond.staticRefV Y.unassigned L.unassignedStatic L.statics hcS0 hiss (a' (.isRef (.static Bundle.tN "UNASSIGNED_STACK" Bundle.steD)) (by simp [Bundle.npeArmAtoms]))
  obtain ⟨sen, hsen⟩ := Cond.staticRefV Y.sentinel L.sentinelStatic L.statics hcS0 hiss (a' (.isRef (.static Bundle.tN "SUPPRESSED_SENTINEL" Bundle.listD)) (by simp [Bundle.npeArmAtoms]))
  obtain ⟨ci198, i198, fB, hk198, hg198, ha198, hsB, -, hnB, htB, hffB⟩ := Cond.ownField (t := .object "java/lang/Object") Y.found L.cls (by decide +kernel) (a' (.fieldLink Bundle.tN 198 Bundle.tN "backtrace" Bundle.objD) (by simp [Bundle.npeArmAtoms])) (a' (.lays Bundle.tN Bundle.tN "backtrace" Bundle.objD) (by simp [Bundle.npeArmAtoms])) e.platform hpl
  obtain ⟨cellS, hcS', heS, -, hkeep⟩ := X.same.2.2.2.2.2 T.aS cellS0 hcS0
  have hcellS : W.heap[T.aS]? = some cellS := hcS'
  have hout' : ∀ i, (⟨T.aS, i⟩ : Loc) ∉ locs := fun i hmem => by
    have := hlocs _ hmem cellS0 hcS0
    rw [hiss] at this; cases this
  have hknownS : cellS.vm ≠ .unknown := by
    rw [heS]; intro hu
    rw [show cellS0.vm = .unknown from hu] at hiss
    cases hiss
  have hvU : cellS.slots[T.fUnassigned.slot]? = some u0.v := by rw [hkeep _ (hout' _)]; exact hu0
  have hvSen : cellS.slots[T.fSentinel.slot]? = some sen.v := by rw [hkeep _ (hout' _)]; exact hsen
  obtain ⟨tyC, dC, hdC, hdnC⟩ := Cond.laysAt hfound hk Y.cause (a' (.lays Bundle.nN Bundle.tN "cause" "Ljava/lang/Throwable;") (by simp [Bundle.npeArmAtoms]))
  obtain ⟨tyS, dS, hdS, hdnS⟩ := Cond.laysAt hfound hk Y.stack (a' (.lays Bundle.nN Bundle.tN "stackTrace" Bundle.steD) (by simp [Bundle.npeArmAtoms]))
  obtain ⟨tyP, dP, hdP, hdnP⟩ := Cond.laysAt hfound hk Y.supp (a' (.lays Bundle.nN Bundle.tN "suppressedExceptions" Bundle.listD) (by simp [Bundle.npeArmAtoms]))
  obtain ⟨tyX, dX, hdX, hdnX⟩ := Cond.laysAt hfound hk hffS (a' (.lays Bundle.nN Bundle.nN "extendedMessageState" "I") (by simp [Bundle.npeArmAtoms, Bundle.npeAtoms]))
  obtain ⟨hnX, htX⟩ := State.fieldFound?_type hffS (t := .int) (by decide +kernel)
  have xC := Cond.laysApart hdC hdX hdnC hdnX (by rw [hnX, Y.causeName]; decide)
  have xS := Cond.laysApart hdS hdX hdnS hdnX (by rw [hnX, Y.stackName]; decide)
  have xP := Cond.laysApart hdP hdX hdnP hdnX (by rw [hnX, Y.suppName]; decide)
  have hv0 : (freshCell P1.m.cls N.kN).slots[N.fState.slot]? = some (.int 0) := by
    have := fresh_default (c := P1.m.cls) tyX
    rw [htX] at this; exact this
  obtain ⟨tyB, dB, hdB, hdnB⟩ := Cond.laysAt hfound hk hffB (a' (.lays Bundle.nN Bundle.tN "backtrace" Bundle.objD) (by simp [Bundle.npeArmAtoms]))
  have bC := Cond.laysApart hdB hdC hdnB hdnC (by rw [hnB, Y.causeName]; decide)
  have bS := Cond.laysApart hdB hdS hdnB hdnS (by rw [hnB, Y.stackName]; decide)
  have bP := Cond.laysApart hdB hdP hdnB hdnP (by rw [hnB, Y.suppName]; decide)
  have bX := Cond.laysApart hdB hdX hdnB hdnX (by rw [hnB, hnX]; decide)
  have hbk : ((npeCell N.toNpeT (preparedCellV T.toThrowableT (freshCell P1.m.cls N.kN) W.heap.size u0 sen) W.cur).withEntry W.cur).slots[fB.slot]? = some .null := by
    have := fresh_default (c := P1.m.cls) tyB
    rw [htB] at this
    simpa [npeCell, preparedCellV, Cell.setSlot, Cell.withEntry, Array.getElem?_setIfInBounds, bC, bS, bP, bX, bC.symm, bS.symm, bP.symm, bX.symm, defaultValue] using this
  have tkC := Takes.of_laid (v := .ref W.heap.size) hk hordN tyC (by rw [Y.causeType]; rfl)
  have tkS := Takes.of_laid (v := u0.v) hk hordN tyS (by rw [Y.stackType]; exact fits_refV_array _ u0)
  have tkP := Takes.of_laid (v := sen.v) hk hordN tyP (by rw [Y.suppType]; exact fits_refV_object _ sen)
  have tkX := Takes.of_laid (v := .int 1) hk hordN tyX (by rw [htX]; rfl)
  have hskip : SkipFacts T e.platform s (fun u => u) u0 ((npeCell N.toNpeT (preparedCellV T.toThrowableT (freshCell P1.m.cls N.kN) W.heap.size u0 sen) W.cur).withEntry W.cur) := ⟨{ ci198 := ci198, i198 := i198, fBack := fB }, ⟨hk198, hg198, ha198, hsB⟩, hbk, fun _ _ => rfl⟩
  obtain ⟨vm', X3, st, -⟩ := X.throwsNpeColdBareVAt hexec hg hsize T L Z LZ N LN P1 L1 [PR, PE] hLs hlink1 ⟨hlinkR, hlinkE, trivial⟩ hfound hk hinit hordN hctor hsel0 hselF hcellS hknownS hvU hvSen
    hv0 xC xS xP tkC tkS tkP tkX Y.objLocals hskip (fun _ _ hA hW _ hroom _ hrest => L.nativeOff p htr hA hW hroom hrest) (by simpa using hRframes) hRlocals (by simp) hRcells (by rw [hn]; exact hRslots)
  have hlt : W.heap.size < ((W.pushCell (freshCell P1.m.cls N.kN)).setVm vm').heap.size := by
    show W.heap.size < (W.pushCell (freshCell P1.m.cls N.kN)).heap.size
    rw [State.heap_size_pushCell]; omega
  rw [hfsz] at X3
  obtain ⟨g₁, hfrM⟩ := X3.frames_eq
  have hU : ((((W.pushCell (freshCell P1.m.cls N.kN)).setVm vm').setCell W.heap.size (npeBareV T.toThrowableT N.toNpeT (freshCell P1.m.cls N.kN) W.heap.size u0 sen)).setTop g).pushFrame (.throwing W.heap.size) = (((W.pushCell (freshCell P1.m.cls N.kN)).setVm vm').setCell W.heap.size (npeBareV T.toThrowableT N.toNpeT (freshCell P1.m.cls N.kN) W.heap.size u0 sen)).setFrames (.throwing W.heap.size :: .java g :: below) := by
    rw [State.pushFrame, State.frames_setTop _ hfrM, State.setTop_of_frames _ hfrM, State.setFrames_setFrames]
  refine ⟨_, W.heap.size, _, fun target ht => st.trans (by rw [← hU]; exact ht), X3.forget (fun y hy => ?_), heapAt_setCell_self _ hlt, hfound, rfl⟩
  simp only [List.mem_cons, List.not_mem_nil, or_false] at hy
  have hge : s.heap.size ≤ W.heap.size := X.same.2.1
  rcases hy with rfl | rfl | rfl | rfl | rfl <;> exact hge
/-- the words of a machine's NullPointerException, but the four that speak of the heap -/
def vx_atN (n : Nat) : List Cond := (Bundle.npeArmAtoms n).filter vx_no
/-- the words of a machine's throw with a message, but the four that speak of the heap -/
def vx_atM (X : String) (names : List String) : List Cond := (Bundle.messageArmAtoms X names).filter vx_no
section
variable {p : Program} {l : Launch} {e : Env} {R : Room} {s : State} {m : MethodId} {args : Array Value} {below : List Frame} {meth : Method} {c : Code} {H : Heap} {locs : List Loc} {cells slots : Nat}
/-- a frame seen from a rebased start, seen from the first start again -/
theorem vx_back9 {T S : State} {R' : Room} {k n : Nat} (X : Stand p l e R s m args below meth c T locs cells slots) (Y : Stand p l e R' ((T.setVm s.vm).setFrames (.invoking m args :: below)) m args below meth c T [] 0 0) (Z : Stand p l e R' ((T.setVm s.vm).setFrames (.invoking m args :: below)) m args below meth c S [] k n) :
    Stand p l e R s m args below meth c S locs (cells + k) (slots + n) := by
  have hW0 : s.WarmedH ((T.setVm s.vm).setFrames (.invoking m args :: below)).vm := State.WarmedH.refl s
  refine { admits := X.admits, cas := X.cas, clock := X.clock, frames := X.frames, room := X.room, hears := X.hears, method := X.method, code := X.code, here := Z.here, tail := Z.tail, warmed := State.WarmedH.trans hW0 Z.warmed, limits := Z.limits.trans (Y.limits.symm.trans X.limits), bytes := Z.bytes.trans (Y.bytes.symm.trans X.bytes), same := ?_ }
  obtain ⟨e1, e2⟩ := Z.same
  rw [State.setFrames_setFrames] at e1
  have h2 : (T.setVm s.vm).sameButNew (S.setVm s.vm) [] k n := ⟨e1, e2⟩
  have h3 := X.same.trans h2
  rw [List.append_nil] at h3
  exact h3
/-- from the machine's note that E is thrown here with this text -/
def vx_Note (p : Program) (l : Launch) (e : Env) (R : Room) (s : State) (m : MethodId) (args : Array Value) (below : List Frame) (meth : Method) (c : Code) (H : Heap) (locs : List Loc) (cells slots : Nat) (Q : State → Prop) (g : JFrame) (E text : String) : Prop :=
  ∀ T : State, T.heap = H → Stand p l e R s m args below meth c T locs cells slots → ∃ t, Steps p.tables e below ((T.setTop g).pushFrame (.throwNew E (some text) none)) t ∧ Q t
theorem vx_vm {pc : Nat} {ls : Array Slot} {rest : List Value} {Q : State → Prop} (hexec : p.tables.exec = Jvm.exec) (hl : l.stackTraces = false) {cls text : String} {names : List String} {nb : Nat} {A : Nat → Prop}
    (hcls : Bundle.fit cls = true) (hnames : ∀ n ∈ names, Bundle.fit n = true) (hsoe : (cls == "java/lang/StackOverflowError") = false) (hoom : (cls == "java/lang/OutOfMemoryError") = false)
    (hat : ∀ w ∈ vx_atM cls names, w.before args s = true) (hgood : ∀ w ∈ vx_atM cls names, vx_ot w = true)
    (hU : vx_Zq Bundle.tN "UNASSIGNED_STACK" Bundle.steD A s s.heap) (hN : vx_Zq Bundle.tN "SUPPRESSED_SENTINEL" Bundle.listD A s s.heap) (hS : va_S A s.heap H locs) (hsize : ls.size = c.maxLocals)
    (htext : (text == notModelled) = false) (hnb : (stringBytes (stringToUtf16 text)).size ≤ nb) (hnb1 : nb ≤ 1000)
    (hRframes : names.length + 4 < R.frames) (hRlocals : (rest.map fun v => v.category).sum + 10240 ≤ R.locals) (hshort : 13 * names.length + 55 ≤ 10240) (hRcells : cells + 3 ≤ R.cells) (hRslots : slots + (nb + 10) ≤ R.slots) (hlocks : meth.locks = false)
    (k : ∀ (H1 : Heap) (q9 : Addr) (ce : Cell), H.size ≤ H1.size → (∀ q : Nat, q < H.size → H1[q]? = H[q]?) → va_S A s.heap H1 locs → H1[q9]? = some ce → ce.vm = .none → s.vm.findClass cls = some ce.cls → vx_W p l e R s m args below meth c H1 locs (cells + 3) (slots + (nb + 10)) Q (F0 m pc ls rest) q9) :
    vx_Note p l e R s m args below meth c H locs cells slots Q (F0 m pc ls rest) cls text := by
  intro T hT X
  have htr : e.platform.stackTraces = false := (show e.platform.stackTraces = l.stackTraces by rw [X.admits.platform]).trans hl
  have Y := vx_rebase X (R' := { frames := R.frames, locals := R.locals, cells := 3, slots := nb + 10 }) (Nat.le_refl _) (Nat.le_refl _) hRcells hRslots
  have hhp : ((T.setVm s.vm).setFrames (.invoking m args :: below)).heap = H := hT
  have hW0 : s.WarmedH ((T.setVm s.vm).setFrames (.invoking m args :: below)).vm := State.WarmedH.refl s
  have hat' : ∀ w ∈ vx_atM cls names, w.before args ((T.setVm s.vm).setFrames (.invoking m args :: below)) = true := fun w hw => vx_ot_at hW0 rfl (hgood w hw) (hat w hw)
  have hU' : vx_Zq Bundle.tN "UNASSIGNED_STACK" Bundle.steD A ((T.setVm s.vm).setFrames (.invoking m args :: below)) ((T.setVm s.vm).setFrames (.invoking m args :: below)).heap := by rw [hhp]; exact vx_Zq.moved hW0.alike (hU.kept hS.2.1)
  have hN' : vx_Zq Bundle.tN "SUPPRESSED_SENTINEL" Bundle.listD A ((T.setVm s.vm).setFrames (.invoking m args :: below)) ((T.setVm s.vm).setFrames (.invoking m args :: below)).heap := by rw [hhp]; exact vx_Zq.moved hW0.alike (hN.kept hS.2.1)
  obtain ⟨S, q, ce, st, Z, hce, hcl', hv⟩ := vx_vmAt Y hexec htr (cls := cls) (names := names) (text := text) hcls hnames hsoe hoom (vx_own hat' (vx_isRefq hU'.1) (vx_isRefq hN'.1) hU'.2.word hN'.2.word) (fun x hx => nomatch hx) htext
    (by rw [Launch.admits_arrayLengthLimit X.admits]; omega) (by rw [Launch.admits_maxHeapBytes X.admits]; simp only [componentBytes]; omega)
    (g := F0 m pc ls rest) rfl hsize hRframes (by show 2 * 0 + (rest.map fun v => v.category).sum + 10240 ≤ R.locals; omega) hshort (by show 0 + 3 ≤ 3; omega) (by show 0 + (_ + 4 + 6) ≤ nb + 10; omega) hlocks
  obtain ⟨f1, f2⟩ := vx_frame Z.same
  have f1' : H.size ≤ S.heap.size := by rw [← hT]; exact f1
  have f2' : ∀ q : Nat, q < H.size → S.heap[q]? = H[q]? := fun q hq => by
    rw [← hT]
    exact f2 q (by rw [← hT] at hq; exact hq) (fun z hz => nomatch hz)
  have X5 := vx_back9 X Y Z
  have X6 : Stand p l e R s m args below meth c S locs (cells + 3) (slots + (nb + 10)) := { X5 with same := X5.same.mono (by omega) (by omega) }
  obtain ⟨t, a1, b1⟩ := k S.heap q ce f1' f2' ⟨Nat.le_trans hS.1 f1', fun q h1 h2 => (f2' q (Nat.lt_of_lt_of_le h1 hS.1)).trans (hS.2.1 q h1 h2), hS.2.2⟩ hce hv hcl' S rfl X6
  exact ⟨t, st t a1, b1⟩
/-- from the machine's note that NullPointerException is thrown here -/
def vx_NoteN (p : Program) (l : Launch) (e : Env) (R : Room) (s : State) (m : MethodId) (args : Array Value) (below : List Frame) (meth : Method) (c : Code) (H : Heap) (locs : List Loc) (cells slots : Nat) (Q : State → Prop) (g : JFrame) : Prop :=
  ∀ T : State, T.heap = H → Stand p l e R s m args below meth c T locs cells slots → ∃ t, Steps p.tables e below ((T.setTop g).pushFrame (.throwNew "java/lang/NullPointerException" none none)) t ∧ Q t
theorem vx_npe {pc : Nat} {ls : Array Slot} {rest : List Value} {Q : State → Prop} (hexec : p.tables.exec = Jvm.exec) (hl : l.stackTraces = false) {nb : Nat} {A : Nat → Prop}
    (hat : ∀ w ∈ vx_atN nb, w.before args s = true) (hgood : ∀ w ∈ vx_atN nb, vx_ot w = true)
    (hU : vx_Zq Bundle.tN "UNASSIGNED_STACK" Bundle.steD A s s.heap) (hN : vx_Zq Bundle.tN "SUPPRESSED_SENTINEL" Bundle.listD A s s.heap) (hS : va_S A s.heap H locs) (hsize : ls.size = c.maxLocals)
    (hRframes : 7 < R.frames) (hRlocals : (rest.map fun v => v.category).sum + 10240 ≤ R.locals) (hRcells : cells + 1 ≤ R.cells) (hRslots : slots + nb ≤ R.slots) (hlocks : meth.locks = false)
    (k : ∀ (H1 : Heap) (q9 : Addr) (ce : Cell), H.size ≤ H1.size → (∀ q : Nat, q < H.size → H1[q]? = H[q]?) → va_S A s.heap H1 locs → H1[q9]? = some ce → ce.vm = .none → s.vm.findClass "java/lang/NullPointerException" = some ce.cls → vx_W p l e R s m args below meth c H1 locs (cells + 1) (slots + nb) Q (F0 m pc ls rest) q9) :
    vx_NoteN p l e R s m args below meth c H locs cells slots Q (F0 m pc ls rest) := by
  intro T hT X
  have htr : e.platform.stackTraces = false := (show e.platform.stackTraces = l.stackTraces by rw [X.admits.platform]).trans hl
  have Y := vx_rebase X (R' := { frames := R.frames, locals := R.locals, cells := 1, slots := nb }) (Nat.le_refl _) (Nat.le_refl _) hRcells hRslots
  have hhp : ((T.setVm s.vm).setFrames (.invoking m args :: below)).heap = H := hT
  have hW0 : s.WarmedH ((T.setVm s.vm).setFrames (.invoking m args :: below)).vm := State.WarmedH.refl s
  have hat' : ∀ w ∈ vx_atN nb, w.before args ((T.setVm s.vm).setFrames (.invoking m args :: below)) = true := fun w hw => vx_ot_at hW0 rfl (hgood w hw) (hat w hw)
  have hU' : vx_Zq Bundle.tN "UNASSIGNED_STACK" Bundle.steD A ((T.setVm s.vm).setFrames (.invoking m args :: below)) ((T.setVm s.vm).setFrames (.invoking m args :: below)).heap := by rw [hhp]; exact vx_Zq.moved hW0.alike (hU.kept hS.2.1)
  have hN' : vx_Zq Bundle.tN "SUPPRESSED_SENTINEL" Bundle.listD A ((T.setVm s.vm).setFrames (.invoking m args :: below)) ((T.setVm s.vm).setFrames (.invoking m args :: below)).heap := by rw [hhp]; exact vx_Zq.moved hW0.alike (hN.kept hS.2.1)
  obtain ⟨S, q, ce, st, Z, hce, hcl', hv⟩ := vx_npeAt Y hexec htr (n := nb) (vx_own hat' (vx_isRefq hU'.1) (vx_isRefq hN'.1) hU'.2.word hN'.2.word) (fun x hx => nomatch hx)
    (g := F0 m pc ls rest) rfl hsize hRframes (by show 2 * 0 + (rest.map fun v => v.category).sum + 10240 ≤ R.locals; omega) (by show 0 + 1 ≤ 1; omega) (by show 0 + nb ≤ nb; omega) hlocks
  obtain ⟨f1, f2⟩ := vx_frame Z.same
  have f1' : H.size ≤ S.heap.size := by rw [← hT]; exact f1
  have f2' : ∀ q : Nat, q < H.size → S.heap[q]? = H[q]? := fun q hq => by
    rw [← hT]
    exact f2 q (by rw [← hT] at hq; exact hq) (fun z hz => nomatch hz)
  have X5 := vx_back9 X Y Z
  have X6 : Stand p l e R s m args below meth c S locs (cells + 1) (slots + nb) := { X5 with same := X5.same.mono (by omega) (by omega) }
  obtain ⟨t, a1, b1⟩ := k S.heap q ce f1' f2' ⟨Nat.le_trans hS.1 f1', fun q h1 h2 => (f2' q (Nat.lt_of_lt_of_le h1 hS.1)).trans (hS.2.1 q h1 h2), hS.2.2⟩ hce hv hcl' S rfl X6
  exact ⟨t, st t a1, b1⟩
variable {Q : State → Prop} {cc : ByteArray} {pc : Nat} {ls : Array Slot} {rest : List Value}
theorem vx_idivZ (hexec : p.tables.exec = Jvm.exec) (hb : c.code = cc) {a b : Int32} (h0 : b = 0) (d : decode cc pc = .ok (.idiv, 1)) (k : vx_Note p l e R s m args below meth c H locs cells slots Q (F0 m pc ls rest) "java/lang/ArithmeticException" "/ by zero") :
    W p l e R s m args below meth c H locs cells slots Q (F0 m pc ls (.int b :: .int a :: rest)) := by
  intro T hT X
  obtain ⟨t, st, q⟩ := k T hT X
  exact ⟨t, X.idivZero hexec (g := F0 m pc ls (.int b :: .int a :: rest)) rfl (a := a) (rest := rest) (by rw [h0]) (by rw [hb]; exact d) t st, q⟩
theorem vx_iremZ (hexec : p.tables.exec = Jvm.exec) (hb : c.code = cc) {a b : Int32} (h0 : b = 0) (d : decode cc pc = .ok (.irem, 1)) (k : vx_Note p l e R s m args below meth c H locs cells slots Q (F0 m pc ls rest) "java/lang/ArithmeticException" "/ by zero") :
    W p l e R s m args below meth c H locs cells slots Q (F0 m pc ls (.int b :: .int a :: rest)) := by
  intro T hT X
  obtain ⟨t, st, q⟩ := k T hT X
  exact ⟨t, X.iremZero hexec (g := F0 m pc ls (.int b :: .int a :: rest)) rfl (a := a) (rest := rest) (by rw [h0]) (by rw [hb]; exact d) t st, q⟩
theorem vx_ldivZ (hexec : p.tables.exec = Jvm.exec) (hb : c.code = cc) {a b : Int64} (h0 : b = 0) (d : decode cc pc = .ok (.ldiv, 1)) (k : vx_Note p l e R s m args below meth c H locs cells slots Q (F0 m pc ls rest) "java/lang/ArithmeticException" "/ by zero") :
    W p l e R s m args below meth c H locs cells slots Q (F0 m pc ls (.long b :: .long a :: rest)) := by
  intro T hT X
  obtain ⟨t, st, q⟩ := k T hT X
  exact ⟨t, X.ldivZero hexec (g := F0 m pc ls (.long b :: .long a :: rest)) rfl (a := a) (rest := rest) (by rw [h0]) (by rw [hb]; exact d) t st, q⟩
theorem vx_lremZ (hexec : p.tables.exec = Jvm.exec) (hb : c.code = cc) {a b : Int64} (h0 : b = 0) (d : decode cc pc = .ok (.lrem, 1)) (k : vx_Note p l e R s m args below meth c H locs cells slots Q (F0 m pc ls rest) "java/lang/ArithmeticException" "/ by zero") :
    W p l e R s m args below meth c H locs cells slots Q (F0 m pc ls (.long b :: .long a :: rest)) := by
  intro T hT X
  obtain ⟨t, st, q⟩ := k T hT X
  exact ⟨t, X.lremZero hexec (g := F0 m pc ls (.long b :: .long a :: rest)) rfl (a := a) (rest := rest) (by rw [h0]) (by rw [hb]; exact d) t st, q⟩
theorem vx_ialdZ {D : va_G} {cl : List vw_C} {ws : va_W} {tys : List (ClassId × FieldType)} {a : Nat} (hexec : p.tables.exec = Jvm.exec) (hb : c.code = cc) (hK : va_K D cl tys s) (hP : va_P D cl ws H) (q0 t0 : Nat) {cA : ClassId} {n : Nat} {f : Nat → Int32} (ha : ws[q0]? = some (a, .inl (cA, n, .inl f))) (ht : tys[t0]? = some (cA, .int)) {i : Int32} (hout : ¬ vp_in i n) (hdg : decode cc pc = .ok (.iaload, 1))
    (k : ∀ tx : String, tx = (toString "Index " ++ toString i ++ toString " out of bounds for length " ++ toString n : String) → vx_Note p l e R s m args below meth c H locs cells slots Q (F0 m pc ls rest) "java/lang/ArrayIndexOutOfBoundsException" tx) : W p l e R s m args below meth c H locs cells slots Q (F0 m pc ls (.int i :: .ref a :: rest)) := by
  intro T hT X
  obtain ⟨t, st, q⟩ := k _ rfl T hT X
  refine ⟨t, ?_, q⟩
  have h1 := X.ialoadOut hexec (by rw [hT]; exact hP q0 _ ha) ((hK.2 t0 _ ht).1 n (fun j => .int (f j))) (j := i) (by show (i < 0 ∨ (arrV _ _ _).slots.size ≤ _); rw [arrV_size]; exact Classical.byContradiction hout) (g := F0 m pc ls (.int i :: .ref a :: rest)) rfl (rest := rest) rfl (by rw [hb]; exact hdg) t
  simp only [arrV_size] at h1
  exact h1 st
theorem vx_iastZ {D : va_G} {cl : List vw_C} {ws : va_W} {tys : List (ClassId × FieldType)} {a : Nat} (hexec : p.tables.exec = Jvm.exec) (hb : c.code = cc) (hK : va_K D cl tys s) (hP : va_P D cl ws H) (q0 t0 : Nat) {cA : ClassId} {n : Nat} {f : Nat → Int32} (ha : ws[q0]? = some (a, .inl (cA, n, .inl f))) (ht : tys[t0]? = some (cA, .int)) {i : Int32} {x : Int32} (hout : ¬ vp_in i n) (hdg : decode cc pc = .ok (.iastore, 1))
    (k : ∀ tx : String, tx = (toString "Index " ++ toString i ++ toString " out of bounds for length " ++ toString n : String) → vx_Note p l e R s m args below meth c H locs cells slots Q (F0 m pc ls rest) "java/lang/ArrayIndexOutOfBoundsException" tx) : W p l e R s m args below meth c H locs cells slots Q (F0 m pc ls (.int x :: .int i :: .ref a :: rest)) := by
  intro T hT X
  obtain ⟨t, st, q⟩ := k _ rfl T hT X
  refine ⟨t, ?_, q⟩
  have h1 := X.iastoreOut hexec (by rw [hT]; exact hP q0 _ ha) ((hK.2 t0 _ ht).1 n (fun j => .int (f j))) (j := i) (by show (i < 0 ∨ (arrV _ _ _).slots.size ≤ _); rw [arrV_size]; exact Classical.byContradiction hout) (g := F0 m pc ls (.int x :: .int i :: .ref a :: rest)) rfl (rest := rest) rfl (by rw [hb]; exact hdg) t
  simp only [arrV_size] at h1
  exact h1 st
theorem vx_baldZ {D : va_G} {cl : List vw_C} {ws : va_W} {tys : List (ClassId × FieldType)} {a : Nat} (hexec : p.tables.exec = Jvm.exec) (hb : c.code = cc) (hK : va_K D cl tys s) (hP : va_P D cl ws H) (q0 t0 : Nat) {cA : ClassId} {n : Nat} {f : Nat → Int32} (ha : ws[q0]? = some (a, .inl (cA, n, .inl f))) (ht : tys[t0]? = some (cA, .byte)) {i : Int32} (hout : ¬ vp_in i n) (hdg : decode cc pc = .ok (.baload, 1))
    (k : ∀ tx : String, tx = (toString "Index " ++ toString i ++ toString " out of bounds for length " ++ toString n : String) → vx_Note p l e R s m args below meth c H locs cells slots Q (F0 m pc ls rest) "java/lang/ArrayIndexOutOfBoundsException" tx) : W p l e R s m args below meth c H locs cells slots Q (F0 m pc ls (.int i :: .ref a :: rest)) := by
  intro T hT X
  obtain ⟨t, st, q⟩ := k _ rfl T hT X
  refine ⟨t, ?_, q⟩
  have h1 := X.baloadOut hexec (by rw [hT]; exact hP q0 _ ha) ((hK.2 t0 _ ht).1 n (fun j => .int (f j))) (j := i) (by show (i < 0 ∨ (arrV _ _ _).slots.size ≤ _); rw [arrV_size]; exact Classical.byContradiction hout) (g := F0 m pc ls (.int i :: .ref a :: rest)) rfl (rest := rest) rfl (by rw [hb]; exact hdg) t
  simp only [arrV_size] at h1
  exact h1 st
theorem vx_bastZ {D : va_G} {cl : List vw_C} {ws : va_W} {tys : List (ClassId × FieldType)} {a : Nat} (hexec : p.tables.exec = Jvm.exec) (hb : c.code = cc) (hK : va_K D cl tys s) (hP : va_P D cl ws H) (q0 t0 : Nat) {cA : ClassId} {n : Nat} {f : Nat → Int32} (ha : ws[q0]? = some (a, .inl (cA, n, .inl f))) (ht : tys[t0]? = some (cA, .byte)) {i : Int32} {x : Int32} (hout : ¬ vp_in i n) (hdg : decode cc pc = .ok (.bastore, 1))
    (k : ∀ tx : String, tx = (toString "Index " ++ toString i ++ toString " out of bounds for length " ++ toString n : String) → vx_Note p l e R s m args below meth c H locs cells slots Q (F0 m pc ls rest) "java/lang/ArrayIndexOutOfBoundsException" tx) : W p l e R s m args below meth c H locs cells slots Q (F0 m pc ls (.int x :: .int i :: .ref a :: rest)) := by
  intro T hT X
  obtain ⟨t, st, q⟩ := k _ rfl T hT X
  refine ⟨t, ?_, q⟩
  have h1 := X.bastoreOut hexec (by rw [hT]; exact hP q0 _ ha) ((hK.2 t0 _ ht).1 n (fun j => .int (f j))) (j := i) (by show (i < 0 ∨ (arrV _ _ _).slots.size ≤ _); rw [arrV_size]; exact Classical.byContradiction hout) (g := F0 m pc ls (.int x :: .int i :: .ref a :: rest)) rfl (rest := rest) rfl (by rw [hb]; exact hdg) t
  simp only [arrV_size] at h1
  exact h1 st
theorem vx_zaldZ {D : va_G} {cl : List vw_C} {ws : va_W} {tys : List (ClassId × FieldType)} {a : Nat} (hexec : p.tables.exec = Jvm.exec) (hb : c.code = cc) (hK : va_K D cl tys s) (hP : va_P D cl ws H) (q0 t0 : Nat) {cA : ClassId} {n : Nat} {f : Nat → Int32} (ha : ws[q0]? = some (a, .inl (cA, n, .inl f))) (ht : tys[t0]? = some (cA, .boolean)) {i : Int32} (hout : ¬ vp_in i n) (hdg : decode cc pc = .ok (.baload, 1))
    (k : ∀ tx : String, tx = (toString "Index " ++ toString i ++ toString " out of bounds for length " ++ toString n : String) → vx_Note p l e R s m args below meth c H locs cells slots Q (F0 m pc ls rest) "java/lang/ArrayIndexOutOfBoundsException" tx) : W p l e R s m args below meth c H locs cells slots Q (F0 m pc ls (.int i :: .ref a :: rest)) := by
  intro T hT X
  obtain ⟨t, st, q⟩ := k _ rfl T hT X
  refine ⟨t, ?_, q⟩
  have h1 := X.baloadOut hexec (by rw [hT]; exact hP q0 _ ha) ((hK.2 t0 _ ht).1 n (fun j => .int (f j))) (j := i) (by show (i < 0 ∨ (arrV _ _ _).slots.size ≤ _); rw [arrV_size]; exact Classical.byContradiction hout) (g := F0 m pc ls (.int i :: .ref a :: rest)) rfl (rest := rest) rfl (by rw [hb]; exact hdg) t
  simp only [arrV_size] at h1
  exact h1 st
theorem vx_zastZ {D : va_G} {cl : List vw_C} {ws : va_W} {tys : List (ClassId × FieldType)} {a : Nat} (hexec : p.tables.exec = Jvm.exec) (hb : c.code = cc) (hK : va_K D cl tys s) (hP : va_P D cl ws H) (q0 t0 : Nat) {cA : ClassId} {n : Nat} {f : Nat → Int32} (ha : ws[q0]? = some (a, .inl (cA, n, .inl f))) (ht : tys[t0]? = some (cA, .boolean)) {i : Int32} {x : Int32} (hout : ¬ vp_in i n) (hdg : decode cc pc = .ok (.bastore, 1))
    (k : ∀ tx : String, tx = (toString "Index " ++ toString i ++ toString " out of bounds for length " ++ toString n : String) → vx_Note p l e R s m args below meth c H locs cells slots Q (F0 m pc ls rest) "java/lang/ArrayIndexOutOfBoundsException" tx) : W p l e R s m args below meth c H locs cells slots Q (F0 m pc ls (.int x :: .int i :: .ref a :: rest)) := by
  intro T hT X
  obtain ⟨t, st, q⟩ := k _ rfl T hT X
  refine ⟨t, ?_, q⟩
  have h1 := X.bastoreOut hexec (by rw [hT]; exact hP q0 _ ha) ((hK.2 t0 _ ht).1 n (fun j => .int (f j))) (j := i) (by show (i < 0 ∨ (arrV _ _ _).slots.size ≤ _); rw [arrV_size]; exact Classical.byContradiction hout) (g := F0 m pc ls (.int x :: .int i :: .ref a :: rest)) rfl (rest := rest) rfl (by rw [hb]; exact hdg) t
  simp only [arrV_size] at h1
  exact h1 st
theorem vx_caldZ {D : va_G} {cl : List vw_C} {ws : va_W} {tys : List (ClassId × FieldType)} {a : Nat} (hexec : p.tables.exec = Jvm.exec) (hb : c.code = cc) (hK : va_K D cl tys s) (hP : va_P D cl ws H) (q0 t0 : Nat) {cA : ClassId} {n : Nat} {f : Nat → Int32} (ha : ws[q0]? = some (a, .inl (cA, n, .inl f))) (ht : tys[t0]? = some (cA, .char)) {i : Int32} (hout : ¬ vp_in i n) (hdg : decode cc pc = .ok (.caload, 1))
    (k : ∀ tx : String, tx = (toString "Index " ++ toString i ++ toString " out of bounds for length " ++ toString n : String) → vx_Note p l e R s m args below meth c H locs cells slots Q (F0 m pc ls rest) "java/lang/ArrayIndexOutOfBoundsException" tx) : W p l e R s m args below meth c H locs cells slots Q (F0 m pc ls (.int i :: .ref a :: rest)) := by
  intro T hT X
  obtain ⟨t, st, q⟩ := k _ rfl T hT X
  refine ⟨t, ?_, q⟩
  have h1 := X.caloadOut hexec (by rw [hT]; exact hP q0 _ ha) ((hK.2 t0 _ ht).1 n (fun j => .int (f j))) (j := i) (by show (i < 0 ∨ (arrV _ _ _).slots.size ≤ _); rw [arrV_size]; exact Classical.byContradiction hout) (g := F0 m pc ls (.int i :: .ref a :: rest)) rfl (rest := rest) rfl (by rw [hb]; exact hdg) t
  simp only [arrV_size] at h1
  exact h1 st
theorem vx_castZ {D : va_G} {cl : List vw_C} {ws : va_W} {tys : List (ClassId × FieldType)} {a : Nat} (hexec : p.tables.exec = Jvm.exec) (hb : c.code = cc) (hK : va_K D cl tys s) (hP : va_P D cl ws H) (q0 t0 : Nat) {cA : ClassId} {n : Nat} {f : Nat → Int32} (ha : ws[q0]? = some (a, .inl (cA, n, .inl f))) (ht : tys[t0]? = some (cA, .char)) {i : Int32} {x : Int32} (hout : ¬ vp_in i n) (hdg : decode cc pc = .ok (.castore, 1))
    (k : ∀ tx : String, tx = (toString "Index " ++ toString i ++ toString " out of bounds for length " ++ toString n : String) → vx_Note p l e R s m args below meth c H locs cells slots Q (F0 m pc ls rest) "java/lang/ArrayIndexOutOfBoundsException" tx) : W p l e R s m args below meth c H locs cells slots Q (F0 m pc ls (.int x :: .int i :: .ref a :: rest)) := by
  intro T hT X
  obtain ⟨t, st, q⟩ := k _ rfl T hT X
  refine ⟨t, ?_, q⟩
  have h1 := X.castoreOut hexec (by rw [hT]; exact hP q0 _ ha) ((hK.2 t0 _ ht).1 n (fun j => .int (f j))) (j := i) (by show (i < 0 ∨ (arrV _ _ _).slots.size ≤ _); rw [arrV_size]; exact Classical.byContradiction hout) (g := F0 m pc ls (.int x :: .int i :: .ref a :: rest)) rfl (rest := rest) rfl (by rw [hb]; exact hdg) t
  simp only [arrV_size] at h1
  exact h1 st
theorem vx_saldZ {D : va_G} {cl : List vw_C} {ws : va_W} {tys : List (ClassId × FieldType)} {a : Nat} (hexec : p.tables.exec = Jvm.exec) (hb : c.code = cc) (hK : va_K D cl tys s) (hP : va_P D cl ws H) (q0 t0 : Nat) {cA : ClassId} {n : Nat} {f : Nat → Int32} (ha : ws[q0]? = some (a, .inl (cA, n, .inl f))) (ht : tys[t0]? = some (cA, .short)) {i : Int32} (hout : ¬ vp_in i n) (hdg : decode cc pc = .ok (.saload, 1))
    (k : ∀ tx : String, tx = (toString "Index " ++ toString i ++ toString " out of bounds for length " ++ toString n : String) → vx_Note p l e R s m args below meth c H locs cells slots Q (F0 m pc ls rest) "java/lang/ArrayIndexOutOfBoundsException" tx) : W p l e R s m args below meth c H locs cells slots Q (F0 m pc ls (.int i :: .ref a :: rest)) := by
  intro T hT X
  obtain ⟨t, st, q⟩ := k _ rfl T hT X
  refine ⟨t, ?_, q⟩
  have h1 := X.saloadOut hexec (by rw [hT]; exact hP q0 _ ha) ((hK.2 t0 _ ht).1 n (fun j => .int (f j))) (j := i) (by show (i < 0 ∨ (arrV _ _ _).slots.size ≤ _); rw [arrV_size]; exact Classical.byContradiction hout) (g := F0 m pc ls (.int i :: .ref a :: rest)) rfl (rest := rest) rfl (by rw [hb]; exact hdg) t
  simp only [arrV_size] at h1
  exact h1 st
theorem vx_sastZ {D : va_G} {cl : List vw_C} {ws : va_W} {tys : List (ClassId × FieldType)} {a : Nat} (hexec : p.tables.exec = Jvm.exec) (hb : c.code = cc) (hK : va_K D cl tys s) (hP : va_P D cl ws H) (q0 t0 : Nat) {cA : ClassId} {n : Nat} {f : Nat → Int32} (ha : ws[q0]? = some (a, .inl (cA, n, .inl f))) (ht : tys[t0]? = some (cA, .short)) {i : Int32} {x : Int32} (hout : ¬ vp_in i n) (hdg : decode cc pc = .ok (.sastore, 1))
    (k : ∀ tx : String, tx = (toString "Index " ++ toString i ++ toString " out of bounds for length " ++ toString n : String) → vx_Note p l e R s m args below meth c H locs cells slots Q (F0 m pc ls rest) "java/lang/ArrayIndexOutOfBoundsException" tx) : W p l e R s m args below meth c H locs cells slots Q (F0 m pc ls (.int x :: .int i :: .ref a :: rest)) := by
  intro T hT X
  obtain ⟨t, st, q⟩ := k _ rfl T hT X
  refine ⟨t, ?_, q⟩
  have h1 := X.sastoreOut hexec (by rw [hT]; exact hP q0 _ ha) ((hK.2 t0 _ ht).1 n (fun j => .int (f j))) (j := i) (by show (i < 0 ∨ (arrV _ _ _).slots.size ≤ _); rw [arrV_size]; exact Classical.byContradiction hout) (g := F0 m pc ls (.int x :: .int i :: .ref a :: rest)) rfl (rest := rest) rfl (by rw [hb]; exact hdg) t
  simp only [arrV_size] at h1
  exact h1 st
theorem vx_laldZ {D : va_G} {cl : List vw_C} {ws : va_W} {tys : List (ClassId × FieldType)} {a : Nat} (hexec : p.tables.exec = Jvm.exec) (hb : c.code = cc) (hK : va_K D cl tys s) (hP : va_P D cl ws H) (q0 t0 : Nat) {cA : ClassId} {n : Nat} {f : Nat → Int64} (ha : ws[q0]? = some (a, .inl (cA, n, .inr (.inl f)))) (ht : tys[t0]? = some (cA, .long)) {i : Int32} (hout : ¬ vp_in i n) (hdg : decode cc pc = .ok (.laload, 1))
    (k : ∀ tx : String, tx = (toString "Index " ++ toString i ++ toString " out of bounds for length " ++ toString n : String) → vx_Note p l e R s m args below meth c H locs cells slots Q (F0 m pc ls rest) "java/lang/ArrayIndexOutOfBoundsException" tx) : W p l e R s m args below meth c H locs cells slots Q (F0 m pc ls (.int i :: .ref a :: rest)) := by
  intro T hT X
  obtain ⟨t, st, q⟩ := k _ rfl T hT X
  refine ⟨t, ?_, q⟩
  have h1 := X.laloadOut hexec (by rw [hT]; exact hP q0 _ ha) ((hK.2 t0 _ ht).1 n (fun j => .long (f j))) (j := i) (by show (i < 0 ∨ (arrV _ _ _).slots.size ≤ _); rw [arrV_size]; exact Classical.byContradiction hout) (g := F0 m pc ls (.int i :: .ref a :: rest)) rfl (rest := rest) rfl (by rw [hb]; exact hdg) t
  simp only [arrV_size] at h1
  exact h1 st
theorem vx_lastZ {D : va_G} {cl : List vw_C} {ws : va_W} {tys : List (ClassId × FieldType)} {a : Nat} (hexec : p.tables.exec = Jvm.exec) (hb : c.code = cc) (hK : va_K D cl tys s) (hP : va_P D cl ws H) (q0 t0 : Nat) {cA : ClassId} {n : Nat} {f : Nat → Int64} (ha : ws[q0]? = some (a, .inl (cA, n, .inr (.inl f)))) (ht : tys[t0]? = some (cA, .long)) {i : Int32} {x : Int64} (hout : ¬ vp_in i n) (hdg : decode cc pc = .ok (.lastore, 1))
    (k : ∀ tx : String, tx = (toString "Index " ++ toString i ++ toString " out of bounds for length " ++ toString n : String) → vx_Note p l e R s m args below meth c H locs cells slots Q (F0 m pc ls rest) "java/lang/ArrayIndexOutOfBoundsException" tx) : W p l e R s m args below meth c H locs cells slots Q (F0 m pc ls (.long x :: .int i :: .ref a :: rest)) := by
  intro T hT X
  obtain ⟨t, st, q⟩ := k _ rfl T hT X
  refine ⟨t, ?_, q⟩
  have h1 := X.lastoreOut hexec (by rw [hT]; exact hP q0 _ ha) ((hK.2 t0 _ ht).1 n (fun j => .long (f j))) (j := i) (by show (i < 0 ∨ (arrV _ _ _).slots.size ≤ _); rw [arrV_size]; exact Classical.byContradiction hout) (g := F0 m pc ls (.long x :: .int i :: .ref a :: rest)) rfl (rest := rest) rfl (by rw [hb]; exact hdg) t
  simp only [arrV_size] at h1
  exact h1 st
theorem vx_faldZ {D : va_G} {cl : List vw_C} {ws : va_W} {tys : List (ClassId × FieldType)} {a : Nat} (hexec : p.tables.exec = Jvm.exec) (hb : c.code = cc) (hK : va_K D cl tys s) (hP : va_P D cl ws H) (q0 t0 : Nat) {cA : ClassId} {n : Nat} {f : Nat → UInt32} (ha : ws[q0]? = some (a, .inl (cA, n, .inr (.inr (.inl f))))) (ht : tys[t0]? = some (cA, .float)) {i : Int32} (hout : ¬ vp_in i n) (hdg : decode cc pc = .ok (.faload, 1))
    (k : ∀ tx : String, tx = (toString "Index " ++ toString i ++ toString " out of bounds for length " ++ toString n : String) → vx_Note p l e R s m args below meth c H locs cells slots Q (F0 m pc ls rest) "java/lang/ArrayIndexOutOfBoundsException" tx) : W p l e R s m args below meth c H locs cells slots Q (F0 m pc ls (.int i :: .ref a :: rest)) := by
  intro T hT X
  obtain ⟨t, st, q⟩ := k _ rfl T hT X
  refine ⟨t, ?_, q⟩
  have h1 := X.faloadOut hexec (by rw [hT]; exact hP q0 _ ha) ((hK.2 t0 _ ht).1 n (fun j => .float (f j))) (j := i) (by show (i < 0 ∨ (arrV _ _ _).slots.size ≤ _); rw [arrV_size]; exact Classical.byContradiction hout) (g := F0 m pc ls (.int i :: .ref a :: rest)) rfl (rest := rest) rfl (by rw [hb]; exact hdg) t
  simp only [arrV_size] at h1
  exact h1 st
theorem vx_fastZ {D : va_G} {cl : List vw_C} {ws : va_W} {tys : List (ClassId × FieldType)} {a : Nat} (hexec : p.tables.exec = Jvm.exec) (hb : c.code = cc) (hK : va_K D cl tys s) (hP : va_P D cl ws H) (q0 t0 : Nat) {cA : ClassId} {n : Nat} {f : Nat → UInt32} (ha : ws[q0]? = some (a, .inl (cA, n, .inr (.inr (.inl f))))) (ht : tys[t0]? = some (cA, .float)) {i : Int32} {x : UInt32} (hout : ¬ vp_in i n) (hdg : decode cc pc = .ok (.fastore, 1))
    (k : ∀ tx : String, tx = (toString "Index " ++ toString i ++ toString " out of bounds for length " ++ toString n : String) → vx_Note p l e R s m args below meth c H locs cells slots Q (F0 m pc ls rest) "java/lang/ArrayIndexOutOfBoundsException" tx) : W p l e R s m args below meth c H locs cells slots Q (F0 m pc ls (.float x :: .int i :: .ref a :: rest)) := by
  intro T hT X
  obtain ⟨t, st, q⟩ := k _ rfl T hT X
  refine ⟨t, ?_, q⟩
  have h1 := X.fastoreOut hexec (by rw [hT]; exact hP q0 _ ha) ((hK.2 t0 _ ht).1 n (fun j => .float (f j))) (j := i) (by show (i < 0 ∨ (arrV _ _ _).slots.size ≤ _); rw [arrV_size]; exact Classical.byContradiction hout) (g := F0 m pc ls (.float x :: .int i :: .ref a :: rest)) rfl (rest := rest) rfl (by rw [hb]; exact hdg) t
  simp only [arrV_size] at h1
  exact h1 st
theorem vx_daldZ {D : va_G} {cl : List vw_C} {ws : va_W} {tys : List (ClassId × FieldType)} {a : Nat} (hexec : p.tables.exec = Jvm.exec) (hb : c.code = cc) (hK : va_K D cl tys s) (hP : va_P D cl ws H) (q0 t0 : Nat) {cA : ClassId} {n : Nat} {f : Nat → UInt64} (ha : ws[q0]? = some (a, .inl (cA, n, .inr (.inr (.inr (.inl f)))))) (ht : tys[t0]? = some (cA, .double)) {i : Int32} (hout : ¬ vp_in i n) (hdg : decode cc pc = .ok (.daload, 1))
    (k : ∀ tx : String, tx = (toString "Index " ++ toString i ++ toString " out of bounds for length " ++ toString n : String) → vx_Note p l e R s m args below meth c H locs cells slots Q (F0 m pc ls rest) "java/lang/ArrayIndexOutOfBoundsException" tx) : W p l e R s m args below meth c H locs cells slots Q (F0 m pc ls (.int i :: .ref a :: rest)) := by
  intro T hT X
  obtain ⟨t, st, q⟩ := k _ rfl T hT X
  refine ⟨t, ?_, q⟩
  have h1 := X.daloadOut hexec (by rw [hT]; exact hP q0 _ ha) ((hK.2 t0 _ ht).1 n (fun j => .double (f j))) (j := i) (by show (i < 0 ∨ (arrV _ _ _).slots.size ≤ _); rw [arrV_size]; exact Classical.byContradiction hout) (g := F0 m pc ls (.int i :: .ref a :: rest)) rfl (rest := rest) rfl (by rw [hb]; exact hdg) t
  simp only [arrV_size] at h1
  exact h1 st
theorem vx_dastZ {D : va_G} {cl : List vw_C} {ws : va_W} {tys : List (ClassId × FieldType)} {a : Nat} (hexec : p.tables.exec = Jvm.exec) (hb : c.code = cc) (hK : va_K D cl tys s) (hP : va_P D cl ws H) (q0 t0 : Nat) {cA : ClassId} {n : Nat} {f : Nat → UInt64} (ha : ws[q0]? = some (a, .inl (cA, n, .inr (.inr (.inr (.inl f)))))) (ht : tys[t0]? = some (cA, .double)) {i : Int32} {x : UInt64} (hout : ¬ vp_in i n) (hdg : decode cc pc = .ok (.dastore, 1))
    (k : ∀ tx : String, tx = (toString "Index " ++ toString i ++ toString " out of bounds for length " ++ toString n : String) → vx_Note p l e R s m args below meth c H locs cells slots Q (F0 m pc ls rest) "java/lang/ArrayIndexOutOfBoundsException" tx) : W p l e R s m args below meth c H locs cells slots Q (F0 m pc ls (.double x :: .int i :: .ref a :: rest)) := by
  intro T hT X
  obtain ⟨t, st, q⟩ := k _ rfl T hT X
  refine ⟨t, ?_, q⟩
  have h1 := X.dastoreOut hexec (by rw [hT]; exact hP q0 _ ha) ((hK.2 t0 _ ht).1 n (fun j => .double (f j))) (j := i) (by show (i < 0 ∨ (arrV _ _ _).slots.size ≤ _); rw [arrV_size]; exact Classical.byContradiction hout) (g := F0 m pc ls (.double x :: .int i :: .ref a :: rest)) rfl (rest := rest) rfl (by rw [hb]; exact hdg) t
  simp only [arrV_size] at h1
  exact h1 st
theorem vx_arraylengthN (hexec : p.tables.exec = Jvm.exec) (hb : c.code = cc) (hdg : decode cc pc = .ok (.arraylength, 1)) (k : vx_NoteN p l e R s m args below meth c H locs cells slots Q (F0 m pc ls rest)) : W p l e R s m args below meth c H locs cells slots Q (F0 m pc ls (.null :: rest)) := by
  intro T hT X
  obtain ⟨t, st, q⟩ := k T hT X
  exact ⟨t, X.arraylengthNull hexec (g := F0 m pc ls (.null :: rest)) rfl (rest := rest) rfl (by rw [hb]; exact hdg) t st, q⟩
theorem vx_ialoadN (hexec : p.tables.exec = Jvm.exec) (hb : c.code = cc) {i : Int32} (hdg : decode cc pc = .ok (.iaload, 1)) (k : vx_NoteN p l e R s m args below meth c H locs cells slots Q (F0 m pc ls rest)) : W p l e R s m args below meth c H locs cells slots Q (F0 m pc ls (.int i :: .null :: rest)) := by
  intro T hT X
  obtain ⟨t, st, q⟩ := k T hT X
  exact ⟨t, X.ialoadNull hexec (g := F0 m pc ls (.int i :: .null :: rest)) rfl (rest := rest) rfl (by rw [hb]; exact hdg) t st, q⟩
theorem vx_laloadN (hexec : p.tables.exec = Jvm.exec) (hb : c.code = cc) {i : Int32} (hdg : decode cc pc = .ok (.laload, 1)) (k : vx_NoteN p l e R s m args below meth c H locs cells slots Q (F0 m pc ls rest)) : W p l e R s m args below meth c H locs cells slots Q (F0 m pc ls (.int i :: .null :: rest)) := by
  intro T hT X
  obtain ⟨t, st, q⟩ := k T hT X
  exact ⟨t, X.laloadNull hexec (g := F0 m pc ls (.int i :: .null :: rest)) rfl (rest := rest) rfl (by rw [hb]; exact hdg) t st, q⟩
theorem vx_faloadN (hexec : p.tables.exec = Jvm.exec) (hb : c.code = cc) {i : Int32} (hdg : decode cc pc = .ok (.faload, 1)) (k : vx_NoteN p l e R s m args below meth c H locs cells slots Q (F0 m pc ls rest)) : W p l e R s m args below meth c H locs cells slots Q (F0 m pc ls (.int i :: .null :: rest)) := by
  intro T hT X
  obtain ⟨t, st, q⟩ := k T hT X
  exact ⟨t, X.faloadNull hexec (g := F0 m pc ls (.int i :: .null :: rest)) rfl (rest := rest) rfl (by rw [hb]; exact hdg) t st, q⟩
theorem vx_daloadN (hexec : p.tables.exec = Jvm.exec) (hb : c.code = cc) {i : Int32} (hdg : decode cc pc = .ok (.daload, 1)) (k : vx_NoteN p l e R s m args below meth c H locs cells slots Q (F0 m pc ls rest)) : W p l e R s m args below meth c H locs cells slots Q (F0 m pc ls (.int i :: .null :: rest)) := by
  intro T hT X
  obtain ⟨t, st, q⟩ := k T hT X
  exact ⟨t, X.daloadNull hexec (g := F0 m pc ls (.int i :: .null :: rest)) rfl (rest := rest) rfl (by rw [hb]; exact hdg) t st, q⟩
theorem vx_aaloadN (hexec : p.tables.exec = Jvm.exec) (hb : c.code = cc) {i : Int32} (hdg : decode cc pc = .ok (.aaload, 1)) (k : vx_NoteN p l e R s m args below meth c H locs cells slots Q (F0 m pc ls rest)) : W p l e R s m args below meth c H locs cells slots Q (F0 m pc ls (.int i :: .null :: rest)) := by
  intro T hT X
  obtain ⟨t, st, q⟩ := k T hT X
  exact ⟨t, X.aaloadNull hexec (g := F0 m pc ls (.int i :: .null :: rest)) rfl (rest := rest) rfl (by rw [hb]; exact hdg) t st, q⟩
theorem vx_baloadN (hexec : p.tables.exec = Jvm.exec) (hb : c.code = cc) {i : Int32} (hdg : decode cc pc = .ok (.baload, 1)) (k : vx_NoteN p l e R s m args below meth c H locs cells slots Q (F0 m pc ls rest)) : W p l e R s m args below meth c H locs cells slots Q (F0 m pc ls (.int i :: .null :: rest)) := by
  intro T hT X
  obtain ⟨t, st, q⟩ := k T hT X
  exact ⟨t, X.baloadNull hexec (g := F0 m pc ls (.int i :: .null :: rest)) rfl (rest := rest) rfl (by rw [hb]; exact hdg) t st, q⟩
theorem vx_caloadN (hexec : p.tables.exec = Jvm.exec) (hb : c.code = cc) {i : Int32} (hdg : decode cc pc = .ok (.caload, 1)) (k : vx_NoteN p l e R s m args below meth c H locs cells slots Q (F0 m pc ls rest)) : W p l e R s m args below meth c H locs cells slots Q (F0 m pc ls (.int i :: .null :: rest)) := by
  intro T hT X
  obtain ⟨t, st, q⟩ := k T hT X
  exact ⟨t, X.caloadNull hexec (g := F0 m pc ls (.int i :: .null :: rest)) rfl (rest := rest) rfl (by rw [hb]; exact hdg) t st, q⟩
theorem vx_saloadN (hexec : p.tables.exec = Jvm.exec) (hb : c.code = cc) {i : Int32} (hdg : decode cc pc = .ok (.saload, 1)) (k : vx_NoteN p l e R s m args below meth c H locs cells slots Q (F0 m pc ls rest)) : W p l e R s m args below meth c H locs cells slots Q (F0 m pc ls (.int i :: .null :: rest)) := by
  intro T hT X
  obtain ⟨t, st, q⟩ := k T hT X
  exact ⟨t, X.saloadNull hexec (g := F0 m pc ls (.int i :: .null :: rest)) rfl (rest := rest) rfl (by rw [hb]; exact hdg) t st, q⟩
theorem vx_iastoreN (hexec : p.tables.exec = Jvm.exec) (hb : c.code = cc) {x : Int32} {i : Int32} (hdg : decode cc pc = .ok (.iastore, 1)) (k : vx_NoteN p l e R s m args below meth c H locs cells slots Q (F0 m pc ls rest)) : W p l e R s m args below meth c H locs cells slots Q (F0 m pc ls (.int x :: .int i :: .null :: rest)) := by
  intro T hT X
  obtain ⟨t, st, q⟩ := k T hT X
  exact ⟨t, X.iastoreNull hexec (g := F0 m pc ls (.int x :: .int i :: .null :: rest)) rfl (rest := rest) rfl (by rw [hb]; exact hdg) t st, q⟩
theorem vx_lastoreN (hexec : p.tables.exec = Jvm.exec) (hb : c.code = cc) {x : Int64} {i : Int32} (hdg : decode cc pc = .ok (.lastore, 1)) (k : vx_NoteN p l e R s m args below meth c H locs cells slots Q (F0 m pc ls rest)) : W p l e R s m args below meth c H locs cells slots Q (F0 m pc ls (.long x :: .int i :: .null :: rest)) := by
  intro T hT X
  obtain ⟨t, st, q⟩ := k T hT X
  exact ⟨t, X.lastoreNull hexec (g := F0 m pc ls (.long x :: .int i :: .null :: rest)) rfl (rest := rest) rfl (by rw [hb]; exact hdg) t st, q⟩
theorem vx_fastoreN (hexec : p.tables.exec = Jvm.exec) (hb : c.code = cc) {x : UInt32} {i : Int32} (hdg : decode cc pc = .ok (.fastore, 1)) (k : vx_NoteN p l e R s m args below meth c H locs cells slots Q (F0 m pc ls rest)) : W p l e R s m args below meth c H locs cells slots Q (F0 m pc ls (.float x :: .int i :: .null :: rest)) := by
  intro T hT X
  obtain ⟨t, st, q⟩ := k T hT X
  exact ⟨t, X.fastoreNull hexec (g := F0 m pc ls (.float x :: .int i :: .null :: rest)) rfl (rest := rest) rfl (by rw [hb]; exact hdg) t st, q⟩
theorem vx_dastoreN (hexec : p.tables.exec = Jvm.exec) (hb : c.code = cc) {x : UInt64} {i : Int32} (hdg : decode cc pc = .ok (.dastore, 1)) (k : vx_NoteN p l e R s m args below meth c H locs cells slots Q (F0 m pc ls rest)) : W p l e R s m args below meth c H locs cells slots Q (F0 m pc ls (.double x :: .int i :: .null :: rest)) := by
  intro T hT X
  obtain ⟨t, st, q⟩ := k T hT X
  exact ⟨t, X.dastoreNull hexec (g := F0 m pc ls (.double x :: .int i :: .null :: rest)) rfl (rest := rest) rfl (by rw [hb]; exact hdg) t st, q⟩
theorem vx_bastoreN (hexec : p.tables.exec = Jvm.exec) (hb : c.code = cc) {x : Int32} {i : Int32} (hdg : decode cc pc = .ok (.bastore, 1)) (k : vx_NoteN p l e R s m args below meth c H locs cells slots Q (F0 m pc ls rest)) : W p l e R s m args below meth c H locs cells slots Q (F0 m pc ls (.int x :: .int i :: .null :: rest)) := by
  intro T hT X
  obtain ⟨t, st, q⟩ := k T hT X
  exact ⟨t, X.bastoreNull hexec (g := F0 m pc ls (.int x :: .int i :: .null :: rest)) rfl (rest := rest) rfl (by rw [hb]; exact hdg) t st, q⟩
theorem vx_castoreN (hexec : p.tables.exec = Jvm.exec) (hb : c.code = cc) {x : Int32} {i : Int32} (hdg : decode cc pc = .ok (.castore, 1)) (k : vx_NoteN p l e R s m args below meth c H locs cells slots Q (F0 m pc ls rest)) : W p l e R s m args below meth c H locs cells slots Q (F0 m pc ls (.int x :: .int i :: .null :: rest)) := by
  intro T hT X
  obtain ⟨t, st, q⟩ := k T hT X
  exact ⟨t, X.castoreNull hexec (g := F0 m pc ls (.int x :: .int i :: .null :: rest)) rfl (rest := rest) rfl (by rw [hb]; exact hdg) t st, q⟩
theorem vx_sastoreN (hexec : p.tables.exec = Jvm.exec) (hb : c.code = cc) {x : Int32} {i : Int32} (hdg : decode cc pc = .ok (.sastore, 1)) (k : vx_NoteN p l e R s m args below meth c H locs cells slots Q (F0 m pc ls rest)) : W p l e R s m args below meth c H locs cells slots Q (F0 m pc ls (.int x :: .int i :: .null :: rest)) := by
  intro T hT X
  obtain ⟨t, st, q⟩ := k T hT X
  exact ⟨t, X.sastoreNull hexec (g := F0 m pc ls (.int x :: .int i :: .null :: rest)) rfl (rest := rest) rfl (by rw [hb]; exact hdg) t st, q⟩
theorem vx_invokeN {own C : String} {index maxL : Nat} {y : MethodName} {bytes : ByteArray} {ret : Option FieldType} (hexec : p.tables.exec = Jvm.exec) (hb : c.code = cc) (hown : s.vm.findClass own = some m.cls) (hlink : (Cond.methodLink own index y).before args s = true) (hinst : (Cond.instanceMethod y).before args s = true) (hcode : (Cond.code y bytes maxL ret).before args s = true) (hsel : (Cond.selects C y y).before args s = true)
    (hx : y.cls ≠ "java/lang/invoke/MethodHandle" ∧ y.cls ≠ "java/lang/invoke/VarHandle") {As : List Value} (hlen : (parseMethodDescriptor y.desc).map (fun d => d.parameters.length) = some As.length) (hdg : decode cc pc = .ok (.invokevirtual index, 3))
    (k : vx_NoteN p l e R s m args below meth c H locs cells slots Q (F0 m pc ls rest)) {st0 : List Value} (hst : st0 = As.reverse ++ .null :: rest) : W p l e R s m args below meth c H locs cells slots Q (F0 m pc ls st0) := by
  intro T hT X
  obtain ⟨r0, r, hn, hrm, hstR, hsigR⟩ := va_Decl.of hinst hcode
  obtain ⟨c2, r2, m2, q1, q2, q3, q4, kP, hkP, hkPi⟩ := Cond.selects_spec hsel
  cases hn.symm.trans q3
  have hl9 : As.length = r.sig.parameters.length := by
    rw [hsigR] at hlen
    exact (Option.some.inj hlen).symm
  obtain ⟨vm', X1, st1⟩ := X.invokevirtualNull hexec hown hlink hn hrm hstR hkP hkPi hx (g := F0 m pc ls st0) rfl (argsL := As) (rest := rest) hl9 hst (by rw [hb]; exact hdg)
  obtain ⟨t, st, q⟩ := k (T.setVm vm') hT X1
  exact ⟨t, st1 t st, q⟩
theorem vx_newarrayZ {atype : ArrayType} (hexec : p.tables.exec = Jvm.exec) (hb : c.code = cc) {n : Int32} (h0 : n < 0) (hdg : decode cc pc = .ok (.newarray atype, 2)) (k : ∀ tx : String, tx = toString n → vx_Note p l e R s m args below meth c H locs cells slots Q (F0 m pc ls rest) "java/lang/NegativeArraySizeException" tx) : W p l e R s m args below meth c H locs cells slots Q (F0 m pc ls (.int n :: rest)) := by
  intro T hT X
  obtain ⟨t, st, q⟩ := k _ rfl T hT X
  exact ⟨t, X.newarrayNegative hexec (g := F0 m pc ls (.int n :: rest)) rfl h0 (rest := rest) rfl (by rw [hb]; exact hdg) t st, q⟩
end
end VXM
/-! ===== END ===== -/
/-! ===== BEGIN an exception as an object: made, kept, thrown later (no traces kept) ===== -/
section VXK
variable {p : Program} {l : Launch} {e : Env} {R : Room} {s : State} {m₀ : MethodId} {args : Array Value} {below : List Frame} {meth : Method} {c : Code} {W : State} {locs : List Loc} {cells slots : Nat}
set_option maxHeartbeats 1000000 in
theorem vx_ctorMadeS (X : Stand p l e R s m₀ args below meth c W locs cells slots) (hexec : p.tables.exec = Jvm.exec) (htr : e.platform.stackTraces = false) {own cls : String} {names : List String} {ic : Nat}
    (hown : s.vm.findClass own = some m₀.cls) (hcls : Bundle.fit cls = true) (hnames : ∀ n ∈ names, Bundle.fit n = true)
    (h : ∀ a ∈ Bundle.ownAtoms own ic cls names, a.before args s = true)
    (hlocs : ∀ x ∈ locs, ∀ cell, s.heap[x.base]? = some cell → cell.vm.isStatics = false)
    {a : Addr} {cX : ClassId} {kX : Class} (hfoundX : s.vm.findClass cls = some cX) (hkX : s.vm.classes[cX]? = some kX) (hcell : W.heap[a]? = some (freshCell cX kX)) (hnew : s.heap.size ≤ a)
    {msg : Value} (hmsg : msg.isRef = true)
    {g : JFrame} (hg : g.method = m₀) (hsize : g.locals.size = c.maxLocals) {rest : List Value} (hstack : g.stack = msg :: .ref a :: .ref a :: rest)
    (hd6 : decode c.code g.pc = .ok (.invokespecial ic, 3))
    (hRframes : names.length + 3 < R.frames) (hRlocals : 2 * g.monitorRoom + ((Value.ref a :: rest).map fun v => v.category).sum + (13 * (names.length + 1) + 42) ≤ R.locals) :
    ∃ (V : State) (ce : Cell) (L : List Loc), Stand p l e R s m₀ args below meth c (V.setCell a ce) (locs ++ L) cells slots ∧ (∀ y ∈ L, y.base = a) ∧ a < V.heap.size ∧ ce.cls = cX ∧ ce.vm = .none ∧
      ∀ target, Steps p.tables e below ((V.setCell a ce).setTop { g with stack := .ref a :: rest, pc := g.pc + 3 }) target → Steps p.tables e below (W.setTop g) target := by
  have howns : e.platform.frameOwnsMonitors = true := by rw [X.admits.platform]
  have hfin : e.platform.finalization = false := by rw [X.admits.platform]
  have hpl : e.platform.magicAccessors = ({} : Platform).magicAccessors := by rw [X.admits.platform]
  have a' : ∀ x, x ∈ Bundle.ownAtoms own ic cls names → x.holds args s none s [] = true := fun x hx => h x hx
  obtain ⟨T, Z0, L, -, Y⟩ := ThrowableC.of_atoms (args := args) howns hfin hpl (fun x hx => h x (by simp [Bundle.ownAtoms, hx]))
  obtain ⟨Z, M, LZ, LM, hnZ⟩ := Init0T.ofS_atoms (args := args) hpl L Y (fun x hx => h x (by simp [Bundle.ownAtoms, hx]))
  obtain ⟨P1, Ps, hlen, L1, hL, hP1m, hlink1, hlink⟩ := Bundle.chainS (args := args) hpl hnZ names cls hcls hnames (fun x hx => h x (by simp [Bundle.ownAtoms, hx]))
  have hfound : s.vm.findClass cls = some P1.m.cls := findClass_of_methodNamed hP1m
  cases Option.some.inj (hfoundX.symm.trans hfound)
  obtain ⟨c1, kX', hc1, hk, hord, -, -, hn6⟩ := Cond.instantiable_spec (a' (.instantiable cls 6) (by simp [Bundle.ownAtoms]))
  cases Option.some.inj (hc1.symm.trans hfound)
  cases Option.some.inj (hkX.symm.trans hk)
  have hsel0 : selectMethod e.platform s.vm P1.m.cls T.fill0 = .method T.fill0 := by
    obtain ⟨c2, r2, m2, q1, q2, q3, q4, -⟩ := Cond.selects_spec (a' (.selects cls Bundle.tFill0 Bundle.tFill0) (by simp [Bundle.ownAtoms]))
    cases Option.some.inj (q1.symm.trans hfound)
    cases Option.some.inj (q2.symm.trans (State.methodFound?_of_named Y.fill0 (by decide)))
    cases Option.some.inj (q3.symm.trans Y.fill0)
    rw [Launch.admits_selectMethod X.admits]; exact q4
  have hselF : selectMethod e.platform s.vm P1.m.cls T.fill = .method T.fill := by
    obtain ⟨c2, r2, m2, q1, q2, q3, q4, -⟩ := Cond.selects_spec (a' (.selects cls Bundle.tFill Bundle.tFill) (by simp [Bundle.ownAtoms]))
    cases Option.some.inj (q1.symm.trans hfound)
    cases Option.some.inj (q2.symm.trans (State.methodFound?_of_named Y.fill (by decide)))
    cases Option.some.inj (q3.symm.trans Y.fill)
    rw [Launch.admits_selectMethod X.admits]; exact q4
  obtain ⟨cellS0, hcS0, hiss⟩ := Y.statics
  obtain ⟨u0, hu0⟩ := Cond.staticRefV Y.unassigned L.unassignedStatic L.statics hcS0 hiss (a' (.isRef (.static Bundle.tN "UNASSIGNED_STACK" Bundle.steD)) (by simp [Bundle.ownAtoms]))
  obtain ⟨sen, hsen⟩ := Cond.staticRefV Y.sentinel L.sentinelStatic L.statics hcS0 hiss (a' (.isRef (.static Bundle.tN "SUPPRESSED_SENTINEL" Bundle.listD)) (by simp [Bundle.ownAtoms]))
  obtain ⟨ci198, i198, fB, hk198, hg198, ha198, hsB, -, hnB, htB, hffB⟩ := Cond.ownField (t := .object "java/lang/Object") Y.found L.cls (by decide +kernel) (a' (.fieldLink Bundle.tN 198 Bundle.tN "backtrace" "Ljava/lang/Object;") (by simp [Bundle.ownAtoms])) (a' (.lays Bundle.tN Bundle.tN "backtrace" "Ljava/lang/Object;") (by simp [Bundle.ownAtoms])) e.platform hpl
  obtain ⟨cellS, hcS', heS, -, hkeep⟩ := X.same.2.2.2.2.2 T.aS cellS0 hcS0
  have hcellS : W.heap[T.aS]? = some cellS := hcS'
  have hout' : ∀ i, (⟨T.aS, i⟩ : Loc) ∉ locs := fun i hmem => by
    have := hlocs _ hmem cellS0 hcS0
    rw [hiss] at this; cases this
  have hknownS : cellS.vm ≠ .unknown := by
    rw [heS]; intro hu
    rw [show cellS0.vm = .unknown from hu] at hiss
    cases hiss
  have hneS : T.aS ≠ a := Nat.ne_of_lt (Nat.lt_of_lt_of_le (Array.getElem?_eq_some_iff.mp hcS0).1 hnew)
  obtain ⟨iM, hffM⟩ := Y.msg
  obtain ⟨tyC, dC, hdC, hdnC⟩ := Cond.laysAt hfound hk Y.cause (a' (.lays cls Bundle.tN "cause" "Ljava/lang/Throwable;") (by simp [Bundle.ownAtoms]))
  obtain ⟨tyS, dS, hdS, hdnS⟩ := Cond.laysAt hfound hk Y.stack (a' (.lays cls Bundle.tN "stackTrace" Bundle.steD) (by simp [Bundle.ownAtoms]))
  obtain ⟨tyP, dP, hdP, hdnP⟩ := Cond.laysAt hfound hk Y.supp (a' (.lays cls Bundle.tN "suppressedExceptions" Bundle.listD) (by simp [Bundle.ownAtoms]))
  obtain ⟨tyM, dM, hdM, hdnM⟩ := Cond.laysAt hfound hk hffM (a' (.lays cls Bundle.tN "detailMessage" "Ljava/lang/String;") (by simp [Bundle.ownAtoms]))
  obtain ⟨tyB, dB, hdB, hdnB⟩ := Cond.laysAt hfound hk hffB (a' (.lays cls Bundle.tN "backtrace" "Ljava/lang/Object;") (by simp [Bundle.ownAtoms]))
  have bC := Cond.laysApart hdB hdC hdnB hdnC (by rw [hnB, Y.causeName]; decide)
  have bS := Cond.laysApart hdB hdS hdnB hdnS (by rw [hnB, Y.stackName]; decide)
  have bP := Cond.laysApart hdB hdP hdnB hdnP (by rw [hnB, Y.suppName]; decide)
  have hskip : SkipFacts T e.platform s (fun u => u) u0 ((preparedCellV T.toThrowableT (freshCell P1.m.cls kX) a u0 sen).withEntry W.cur) :=
    ⟨{ ci198 := ci198, i198 := i198, fBack := fB }, ⟨hk198, hg198, ha198, hsB⟩, by
      have := fresh_default (c := P1.m.cls) tyB
      rw [htB] at this
      simpa [preparedCellV, Cell.setSlot, Cell.withEntry, Array.getElem?_setIfInBounds, bC, bS, bP, bC.symm, bS.symm, bP.symm, defaultValue] using this, fun _ _ => rfl⟩
  obtain ⟨tm, methC, cdC, kC, vm₁, hnC, -, -, -, -, -, -, -, hW₁, st1⟩ := Steps.initColdS (tb := p.tables) (e := e) (below := below) (s := s) (U := W) X.here hexec X.warmed hpl hown (t := Bundle.initS cls) rfl rfl (Bundle.fit_spec hcls).2
    (a' (.methodLink own ic (Bundle.initS cls)) (by simp [Bundle.ownAtoms])) (h (.instanceMethod (Bundle.initS cls)) (by cases names <;> simp [Bundle.ownAtoms, Bundle.chainSAtoms, Bundle.passSAtoms])) (bytes := Bundle.six) (maxL := 2) (h (.code (Bundle.initS cls) Bundle.six 2 none) (by cases names <;> simp [Bundle.ownAtoms, Bundle.chainSAtoms, Bundle.passSAtoms]))
    (f := g) hg (a := a) (msg := msg) (rest := .ref a :: rest) hstack hd6
  cases Option.some.inj (hnC.symm.trans hP1m)
  have X₁ := X.noted hW₁
  obtain ⟨vm₂, X₂, st2⟩ := X₁.ctorMessageOffV hexec (g := { g with stack := .ref a :: rest }) hg hsize T L Z LZ M LM (P1 :: Ps)
    (fun P hP => by rcases List.mem_cons.mp hP with rfl | hP; exact L1; exact hL P hP) ⟨hlink1, hlink⟩ (u0 := u0) (sen := sen) (self := a) hmsg (cell := freshCell P1.m.cls kX) (cellS := cellS)
    hcell (fun _ => by simp) (by simp) rfl rfl hsel0 hselF hcellS hneS hknownS (by rw [hkeep _ (hout' _)]; exact hu0) (by rw [hkeep _ (hout' _)]; exact hsen)
    (Takes.of_laid hk hord tyC (by rw [Y.causeType]; rfl)) (Takes.of_laid hk hord tyS (by rw [Y.stackType]; exact fits_refV_array _ u0)) (Takes.of_laid hk hord tyP (by rw [Y.suppType]; exact fits_refV_object _ sen))
    (Takes.of_laid hk hord tyM (by rw [Y.msgType]; exact fits_refV_object _ ⟨msg, hmsg⟩)) Y.objLocals hskip htr [] hd6
    (by simp only [List.length_cons, hlen]; omega) (by simp only [List.length_cons, hlen]; exact hRlocals)
  have hlt : a < ((W.setVm vm₁).setVm vm₂).heap.size := (Array.getElem?_eq_some_iff.mp hcell).1
  refine ⟨(W.setVm vm₁).setVm vm₂, _, _, X₂, fun y hy => ?_, hlt, rfl, rfl, fun target hwalk => st1 _ (fun acts => ?_)⟩
  · simp only [List.mem_cons, List.not_mem_nil, or_false] at hy
    rcases hy with rfl | rfl | rfl | rfl | rfl <;> rfl
  · rw [doInvoke_state]
    exact st2 _ hwalk
set_option maxHeartbeats 1000000 in
theorem vx_ctorMade0 (X : Stand p l e R s m₀ args below meth c W locs cells slots) (hexec : p.tables.exec = Jvm.exec) (htr : e.platform.stackTraces = false) {own cls : String} {names : List String} {ic : Nat}
    (hown : s.vm.findClass own = some m₀.cls) (hcls : Bundle.fit cls = true) (hnames : ∀ n ∈ names, Bundle.fit n = true)
    (h : ∀ a ∈ Bundle.ownAtoms0 own ic cls names, a.before args s = true)
    (hlocs : ∀ x ∈ locs, ∀ cell, s.heap[x.base]? = some cell → cell.vm.isStatics = false)
    {a : Addr} {cX : ClassId} {kX : Class} (hfoundX : s.vm.findClass cls = some cX) (hkX : s.vm.classes[cX]? = some kX) (hcell : W.heap[a]? = some (freshCell cX kX)) (hnew : s.heap.size ≤ a)
    {g : JFrame} (hg : g.method = m₀) (hsize : g.locals.size = c.maxLocals) {rest : List Value} (hstack : g.stack = .ref a :: .ref a :: rest)
    (hd6 : decode c.code g.pc = .ok (.invokespecial ic, 3))
    (hRframes : names.length + 3 < R.frames) (hRlocals : 2 * g.monitorRoom + ((Value.ref a :: rest).map fun v => v.category).sum + (13 * (names.length + 1) + 41) ≤ R.locals) :
    ∃ (V : State) (ce : Cell) (L : List Loc), Stand p l e R s m₀ args below meth c (V.setCell a ce) (locs ++ L) cells slots ∧ (∀ y ∈ L, y.base = a) ∧ a < V.heap.size ∧ ce.cls = cX ∧ ce.vm = .none ∧
      ∀ target, Steps p.tables e below ((V.setCell a ce).setTop { g with stack := .ref a :: rest, pc := g.pc + 3 }) target → Steps p.tables e below (W.setTop g) target := by
  have howns : e.platform.frameOwnsMonitors = true := by rw [X.admits.platform]
  have hfin : e.platform.finalization = false := by rw [X.admits.platform]
  have hpl : e.platform.magicAccessors = ({} : Platform).magicAccessors := by rw [X.admits.platform]
  have a' : ∀ x, x ∈ Bundle.ownAtoms0 own ic cls names → x.holds args s none s [] = true := fun x hx => h x hx
  obtain ⟨T, Z, L, LZ, Y⟩ := ThrowableC.of_atoms (args := args) howns hfin hpl (fun x hx => h x (by simp [Bundle.ownAtoms0, hx]))
  obtain ⟨P1, Ps, hlen, L1, hL, hP1m, hlink1, hlink⟩ := Bundle.chain0 (args := args) hpl Y.init0 names cls hcls hnames (fun x hx => h x (by simp [Bundle.ownAtoms0, hx]))
  have hfound : s.vm.findClass cls = some P1.m.cls := findClass_of_methodNamed hP1m
  cases Option.some.inj (hfoundX.symm.trans hfound)
  obtain ⟨c1, kX', hc1, hk, hord, -, -, hn6⟩ := Cond.instantiable_spec (a' (.instantiable cls 6) (by simp [Bundle.ownAtoms0]))
  cases Option.some.inj (hc1.symm.trans hfound)
  cases Option.some.inj (hkX.symm.trans hk)
  have hsel0 : selectMethod e.platform s.vm P1.m.cls T.fill0 = .method T.fill0 := by
    obtain ⟨c2, r2, m2, q1, q2, q3, q4, -⟩ := Cond.selects_spec (a' (.selects cls Bundle.tFill0 Bundle.tFill0) (by simp [Bundle.ownAtoms0]))
    cases Option.some.inj (q1.symm.trans hfound)
    cases Option.some.inj (q2.symm.trans (State.methodFound?_of_named Y.fill0 (by decide)))
    cases Option.some.inj (q3.symm.trans Y.fill0)
    rw [Launch.admits_selectMethod X.admits]; exact q4
  have hselF : selectMethod e.platform s.vm P1.m.cls T.fill = .method T.fill := by
    obtain ⟨c2, r2, m2, q1, q2, q3, q4, -⟩ := Cond.selects_spec (a' (.selects cls Bundle.tFill Bundle.tFill) (by simp [Bundle.ownAtoms0]))
    cases Option.some.inj (q1.symm.trans hfound)
    cases Option.some.inj (q2.symm.trans (State.methodFound?_of_named Y.fill (by decide)))
    cases Option.some.inj (q3.symm.trans Y.fill)
    rw [Launch.admits_selectMethod X.admits]; exact q4
  obtain ⟨cellS0, hcS0, hiss⟩ := Y.statics
  obtain ⟨u0, hu0⟩ := Cond.staticRefV Y.unassigned L.unassignedStatic L.statics hcS0 hiss (a' (.isRef (.static Bundle.tN "UNASSIGNED_STACK" Bundle.steD)) (by simp [Bundle.ownAtoms0]))
  obtain ⟨sen, hsen⟩ := Cond.staticRefV Y.sentinel L.sentinelStatic L.statics hcS0 hiss (a' (.isRef (.static Bundle.tN "SUPPRESSED_SENTINEL" Bundle.listD)) (by simp [Bundle.ownAtoms0]))
  obtain ⟨ci198, i198, fB, hk198, hg198, ha198, hsB, -, hnB, htB, hffB⟩ := Cond.ownField (t := .object "java/lang/Object") Y.found L.cls (by decide +kernel) (a' (.fieldLink Bundle.tN 198 Bundle.tN "backtrace" "Ljava/lang/Object;") (by simp [Bundle.ownAtoms0])) (a' (.lays Bundle.tN Bundle.tN "backtrace" "Ljava/lang/Object;") (by simp [Bundle.ownAtoms0])) e.platform hpl
  obtain ⟨cellS, hcS', heS, -, hkeep⟩ := X.same.2.2.2.2.2 T.aS cellS0 hcS0
  have hcellS : W.heap[T.aS]? = some cellS := hcS'
  have hout' : ∀ i, (⟨T.aS, i⟩ : Loc) ∉ locs := fun i hmem => by
    have := hlocs _ hmem cellS0 hcS0
    rw [hiss] at this; cases this
  have hknownS : cellS.vm ≠ .unknown := by
    rw [heS]; intro hu
    rw [show cellS0.vm = .unknown from hu] at hiss
    cases hiss
  have hneS : T.aS ≠ a := Nat.ne_of_lt (Nat.lt_of_lt_of_le (Array.getElem?_eq_some_iff.mp hcS0).1 hnew)
  obtain ⟨iM, hffM⟩ := Y.msg
  obtain ⟨tyC, dC, hdC, hdnC⟩ := Cond.laysAt hfound hk Y.cause (a' (.lays cls Bundle.tN "cause" "Ljava/lang/Throwable;") (by simp [Bundle.ownAtoms0]))
  obtain ⟨tyS, dS, hdS, hdnS⟩ := Cond.laysAt hfound hk Y.stack (a' (.lays cls Bundle.tN "stackTrace" Bundle.steD) (by simp [Bundle.ownAtoms0]))
  obtain ⟨tyP, dP, hdP, hdnP⟩ := Cond.laysAt hfound hk Y.supp (a' (.lays cls Bundle.tN "suppressedExceptions" Bundle.listD) (by simp [Bundle.ownAtoms0]))
  obtain ⟨tyM, dM, hdM, hdnM⟩ := Cond.laysAt hfound hk hffM (a' (.lays cls Bundle.tN "detailMessage" "Ljava/lang/String;") (by simp [Bundle.ownAtoms0]))
  obtain ⟨tyB, dB, hdB, hdnB⟩ := Cond.laysAt hfound hk hffB (a' (.lays cls Bundle.tN "backtrace" "Ljava/lang/Object;") (by simp [Bundle.ownAtoms0]))
  have bC := Cond.laysApart hdB hdC hdnB hdnC (by rw [hnB, Y.causeName]; decide)
  have bS := Cond.laysApart hdB hdS hdnB hdnS (by rw [hnB, Y.stackName]; decide)
  have bP := Cond.laysApart hdB hdP hdnB hdnP (by rw [hnB, Y.suppName]; decide)
  have hskip : SkipFacts T e.platform s (fun u => u) u0 ((preparedCellV T.toThrowableT (freshCell P1.m.cls kX) a u0 sen).withEntry W.cur) :=
    ⟨{ ci198 := ci198, i198 := i198, fBack := fB }, ⟨hk198, hg198, ha198, hsB⟩, by
      have := fresh_default (c := P1.m.cls) tyB
      rw [htB] at this
      simpa [preparedCellV, Cell.setSlot, Cell.withEntry, Array.getElem?_setIfInBounds, bC, bS, bP, bC.symm, bS.symm, bP.symm, defaultValue] using this, fun _ _ => rfl⟩
  obtain ⟨tm, methC, cdC, kC, vm₁, hnC, -, -, -, -, -, -, -, hW₁, st1⟩ := Steps.initCold (tb := p.tables) (e := e) (below := below) (s := s) (U := W) X.here hexec X.warmed hpl hown (t := Bundle.init0 cls) rfl rfl (Bundle.fit_spec hcls).2
    (a' (.methodLink own ic (Bundle.init0 cls)) (by simp [Bundle.ownAtoms0])) (h (.instanceMethod (Bundle.init0 cls)) (by cases names <;> simp [Bundle.ownAtoms0, Bundle.chain0Atoms, Bundle.passAtoms])) (bytes := Bundle.five) (maxL := 1) (h (.code (Bundle.init0 cls) Bundle.five 1 none) (by cases names <;> simp [Bundle.ownAtoms0, Bundle.chain0Atoms, Bundle.passAtoms]))
    (f := g) hg (a := a) (rest := .ref a :: rest) hstack hd6
  cases Option.some.inj (hnC.symm.trans hP1m)
  have X₁ := X.noted hW₁
  obtain ⟨vm₂, X₂, st2⟩ := X₁.ctorPlainOffV hexec (g := { g with stack := .ref a :: rest }) hg hsize T L Z LZ (P1 :: Ps)
    (fun P hP => by rcases List.mem_cons.mp hP with rfl | hP; exact L1; exact hL P hP) ⟨hlink1, hlink⟩ (u0 := u0) (sen := sen) (self := a) (cell := freshCell P1.m.cls kX) (cellS := cellS)
    hcell (fun _ => by simp) (by simp) rfl rfl hsel0 hselF hcellS hneS hknownS (by rw [hkeep _ (hout' _)]; exact hu0) (by rw [hkeep _ (hout' _)]; exact hsen)
    (Takes.of_laid hk hord tyC (by rw [Y.causeType]; rfl)) (Takes.of_laid hk hord tyS (by rw [Y.stackType]; exact fits_refV_array _ u0)) (Takes.of_laid hk hord tyP (by rw [Y.suppType]; exact fits_refV_object _ sen)) Y.objLocals hskip htr [] hd6
    (by simp only [List.length_cons, hlen]; omega) (by simp only [List.length_cons, hlen]; exact hRlocals)
  have hlt : a < ((W.setVm vm₁).setVm vm₂).heap.size := (Array.getElem?_eq_some_iff.mp hcell).1
  refine ⟨(W.setVm vm₁).setVm vm₂, _, _, X₂, fun y hy => ?_, hlt, rfl, rfl, fun target hwalk => st1 _ (fun acts => ?_)⟩
  · simp only [List.mem_cons, List.not_mem_nil, or_false] at hy
    rcases hy with rfl | rfl | rfl | rfl <;> rfl
  · rw [doInvoke_state]
    exact st2 _ hwalk
end VXK
section VXK2
variable {p : Program} {l : Launch} {e : Env} {R : Room} {s : State} {m : MethodId} {args : Array Value} {below : List Frame} {meth : Method} {c : Code} {H : Heap} {locs : List Loc} {cells slots : Nat} {Q : State → Prop}
variable {ls : Array Slot} {rest : List Value} {D : va_G} {cl : List vw_C} {tys : List (ClassId × FieldType)} {ws : va_W}
/-- 'new E("text")' that isn't thrown at once: the object goes on the stack -/
theorem vx_makeS {cc : ByteArray} {pc : Nat} (hexec : p.tables.exec = Jvm.exec) (hb : c.code = cc) (hl : l.stackTraces = false) {own cls text : String} {names : List String} {ik is ic sa ci : Nat} {A : Nat → Prop} {T0 : u_T}
    (hown : s.vm.findClass own = some m.cls) (hcls : Bundle.fit cls = true) (hnames : ∀ n ∈ names, Bundle.fit n = true)
    (hk : (Cond.classLink own ik cls).before args s = true) (hini : (Cond.initialized cls).before args s = true) (hstr : vk_R own is text sa s) (hat : ∀ w ∈ vx_atS own ic cls names, w.before args s = true)
    (hgood : ∀ w ∈ Cond.classLink own ik cls :: Cond.initialized cls :: vx_atS own ic cls names, vx_ot w = true)
    (hU : vx_Zq Bundle.tN "UNASSIGNED_STACK" Bundle.steD A s s.heap) (hN : vx_Zq Bundle.tN "SUPPRESSED_SENTINEL" Bundle.listD A s s.heap) (hS : va_S A s.heap H locs) (hsize : ls.size = c.maxLocals)
    (d0 : decode cc pc = .ok (.new ik, 3)) (d3 : decode cc (pc + 3) = .ok (.dup, 1)) (d4 : decode cc (pc + 4) = .ok (.ldc is, 2)) (d6 : decode cc (pc + 6) = .ok (.invokespecial ic, 3))
    (hK : va_K D cl tys s) (hP : va_P D cl ws H) (hD : va_D A ws) (hA : ∀ q, s.heap.size ≤ q → A q) (hc : cl[ci]? = some (cls, T0, 0))
    (hRframes : names.length + 3 < R.frames) (hRlocals : (rest.map fun v => v.category).sum + (13 * (names.length + 1) + 43) ≤ R.locals) (hRcells : cells + 1 ≤ R.cells) (hRslots : slots + 6 ≤ R.slots)
    (kk : ∀ (q : Nat) (H1 : Heap), va_P D cl (ws ++ [(q, .inr (ci, []))]) H1 → va_D A (ws ++ [(q, .inr (ci, []))]) → va_S A s.heap H1 locs → W p l e R s m args below meth c H1 locs (cells + 1) (slots + 6) Q (F0 m (pc + 9) ls (.ref q :: rest))) :
    W p l e R s m args below meth c H locs cells slots Q (F0 m pc ls rest) := by
  intro T hT X
  subst hT
  have htr : e.platform.stackTraces = false := (show e.platform.stackTraces = l.stackTraces by rw [X.admits.platform]).trans hl
  have Y := vx_rebase X (R' := { frames := R.frames, locals := R.locals, cells := 1, slots := 6 }) (Nat.le_refl _) (Nat.le_refl _) hRcells hRslots
  obtain ⟨s', hA'⟩ : ∃ z, z = (T.setVm s.vm).setFrames (.invoking m args :: below) := ⟨_, rfl⟩
  rw [← hA'] at Y
  have hvm : s'.vm = s.vm := by rw [hA']; rfl
  have hhp : s'.heap = T.heap := by rw [hA']; rfl
  have hW0 : s.WarmedH s'.vm := by rw [hvm]; exact State.WarmedH.refl s
  have hat' : ∀ w ∈ vx_atS own ic cls names, w.before args s' = true := fun w hw => vx_ot_at hW0 hvm.symm (hgood w (List.mem_cons_of_mem _ (List.mem_cons_of_mem _ hw))) (hat w hw)
  have hk' : (Cond.classLink own ik cls).before args s' = true := vx_ot_at hW0 hvm.symm (hgood _ List.mem_cons_self) hk
  have hini' : (Cond.initialized cls).before args s' = true := vx_ot_at hW0 hvm.symm (hgood _ (List.mem_cons_of_mem _ List.mem_cons_self)) hini
  have hU' : vx_Zq Bundle.tN "UNASSIGNED_STACK" Bundle.steD A s' s'.heap := by rw [hhp]; exact vx_Zq.moved hW0.alike (hU.kept hS.2.1)
  have hN' : vx_Zq Bundle.tN "SUPPRESSED_SENTINEL" Bundle.listD A s' s'.heap := by rw [hhp]; exact vx_Zq.moved hW0.alike (hN.kept hS.2.1)
  have h : ∀ w ∈ Bundle.ownAtoms own ic cls names, w.before args s' = true := vx_own hat' (vx_isRefq hU'.1) (vx_isRefq hN'.1) hU'.2.word hN'.2.word
  have hown' : s'.vm.findClass own = some m.cls := by rw [hvm]; exact hown
  have hins : (Cond.instantiable cls 6).before args s' = true := h _ (by simp [Bundle.ownAtoms])
  obtain ⟨vm₁, cX, kX, hfX, hkX, -, -, X₁, st1⟩ := Y.newCold hexec (own := own) (C := cls) (index := ik) (n := 6) hown' hk' hins hini'
    (g := F0 m pc ls rest) rfl (by rw [hb]; exact d0) (Nat.le_refl _) (Nat.le_refl _)
  generalize hT1 : (T.setVm vm₁).pushCell { cls := cX, slots := kX.instanceTypes.map defaultValue, vm := .none } = T1 at X₁ st1
  have hcat : (Value.ref T.heap.size).category = 1 := rfl
  have hcellA : T1.heap[T.heap.size]? = some (freshCell cX kX) := by rw [← hT1]; exact State.heap_pushCell_size _ _
  have d3' : decode c.code (pc + 3) = .ok (.dup, 1) := by rw [hb]; exact d3
  have d4' : decode c.code (pc + 4) = .ok (.ldc is, 2) := by rw [hb]; exact d4
  have hstr' : vk_R own is text sa s' := vk_R.warm hW0 hstr
  obtain ⟨V, ce, L, Z, hL, hlt, hcl9, hvm9, st⟩ := vx_ctorMadeS X₁ hexec htr (own := own) (cls := cls) (names := names) (ic := ic) hown' hcls hnames h (fun x hx => nomatch hx) hfX hkX hcellA (by rw [hhp]; exact Nat.le_refl _) (msg := .ref sa) rfl
    (g := { method := m, pc := pc + 6, locals := ls, stack := .ref sa :: .ref T.heap.size :: .ref T.heap.size :: rest, locked := none }) rfl hsize (rest := rest) rfl
    (by rw [hb]; exact d6) hRframes (by simp only [List.map_cons, List.sum_cons, hcat]; omega)
  have Z0 := Stand.forget (locs := []) Z (fun y hy => by rw [hL y hy, hhp]; exact Nat.le_refl _)
  obtain ⟨f1, f2⟩ := vx_frame Z0.same
  rw [hhp] at f1 f2
  have hcid : ce.cls = D.1 ci := by
    rw [hcl9]
    have h1 := (hK.1 ci _ hc).2.1
    rw [hvm] at hfX
    exact Option.some.inj (hfX.symm.trans h1)
  have hh : (V.setCell T.heap.size ce).heap[T.heap.size]? = some ce := heapAt_setCell_self (s := V) ce hlt
  subst hA'
  have X5 := vx_back9 X Y Z0
  have X6 : Stand p l e R s m args below meth c (V.setCell T.heap.size ce) locs (cells + 1) (slots + 6) := { X5 with same := X5.same.mono (by omega) (by omega) }
  have hk9 : ∀ (k : Nat) (x : Nat × va_E), ws[k]? = some x → (V.setCell T.heap.size ce).heap[x.1]? = T.heap[x.1]? := fun k x hx => f2 x.1 ((hP k x hx).lt) (fun z hz => nomatch hz)
  obtain ⟨t, a1, b1⟩ := kk T.heap.size (V.setCell T.heap.size ce).heap ((hP.kept hk9).app (fun k x hx => by
      have hz : k < 1 := (List.getElem?_eq_some_iff.mp hx).1
      rw [show k = 0 by omega] at hx
      cases hx
      exact ⟨_, hc, ce, hh, hcid, hvm9, fun k hk => absurd hk (Nat.not_lt_zero k)⟩)) (hD.push hP rfl (hA _ hS.1)) ⟨Nat.le_trans hS.1 f1, fun q h1 h2 => (f2 q (Nat.lt_of_lt_of_le h1 hS.1) (fun z hz => nomatch hz)).trans (hS.2.1 q h1 h2), hS.2.2⟩ _ rfl X6
  refine ⟨t, st1 _ ?_, b1⟩
  show Steps p.tables e below (T1.setTop { method := m, pc := pc + 3, locals := ls, stack := .ref T.heap.size :: rest, locked := none }) _
  jvm_step X₁.here [X₁.here.top, hexec, d3', Value.category]
  exact X₁.ldcString hexec (own := own) (text := text) (index := is) (a := sa) hown' hstr'.1 hstr'.2
    (g := { method := m, pc := pc + 4, locals := ls, stack := .ref T.heap.size :: .ref T.heap.size :: rest, locked := none }) rfl d4' _ (st _ a1)
/-- 'new E()' that isn't thrown at once: the object goes on the stack -/
theorem vx_make0 {cc : ByteArray} {pc : Nat} (hexec : p.tables.exec = Jvm.exec) (hb : c.code = cc) (hl : l.stackTraces = false) {own cls : String} {names : List String} {ik ic ci : Nat} {A : Nat → Prop} {T0 : u_T}
    (hown : s.vm.findClass own = some m.cls) (hcls : Bundle.fit cls = true) (hnames : ∀ n ∈ names, Bundle.fit n = true)
    (hk : (Cond.classLink own ik cls).before args s = true) (hini : (Cond.initialized cls).before args s = true) (hat : ∀ w ∈ vx_at0 own ic cls names, w.before args s = true)
    (hgood : ∀ w ∈ Cond.classLink own ik cls :: Cond.initialized cls :: vx_at0 own ic cls names, vx_ot w = true)
    (hU : vx_Zq Bundle.tN "UNASSIGNED_STACK" Bundle.steD A s s.heap) (hN : vx_Zq Bundle.tN "SUPPRESSED_SENTINEL" Bundle.listD A s s.heap) (hS : va_S A s.heap H locs) (hsize : ls.size = c.maxLocals)
    (d0 : decode cc pc = .ok (.new ik, 3)) (d3 : decode cc (pc + 3) = .ok (.dup, 1)) (d4 : decode cc (pc + 4) = .ok (.invokespecial ic, 3))
    (hK : va_K D cl tys s) (hP : va_P D cl ws H) (hD : va_D A ws) (hA : ∀ q, s.heap.size ≤ q → A q) (hc : cl[ci]? = some (cls, T0, 0))
    (hRframes : names.length + 3 < R.frames) (hRlocals : (rest.map fun v => v.category).sum + (13 * (names.length + 1) + 42) ≤ R.locals) (hRcells : cells + 1 ≤ R.cells) (hRslots : slots + 6 ≤ R.slots)
    (kk : ∀ (q : Nat) (H1 : Heap), va_P D cl (ws ++ [(q, .inr (ci, []))]) H1 → va_D A (ws ++ [(q, .inr (ci, []))]) → va_S A s.heap H1 locs → W p l e R s m args below meth c H1 locs (cells + 1) (slots + 6) Q (F0 m (pc + 7) ls (.ref q :: rest))) :
    W p l e R s m args below meth c H locs cells slots Q (F0 m pc ls rest) := by
  intro T hT X
  subst hT
  have htr : e.platform.stackTraces = false := (show e.platform.stackTraces = l.stackTraces by rw [X.admits.platform]).trans hl
  have Y := vx_rebase X (R' := { frames := R.frames, locals := R.locals, cells := 1, slots := 6 }) (Nat.le_refl _) (Nat.le_refl _) hRcells hRslots
  obtain ⟨s', hA'⟩ : ∃ z, z = (T.setVm s.vm).setFrames (.invoking m args :: below) := ⟨_, rfl⟩
  rw [← hA'] at Y
  have hvm : s'.vm = s.vm := by rw [hA']; rfl
  have hhp : s'.heap = T.heap := by rw [hA']; rfl
  have hW0 : s.WarmedH s'.vm := by rw [hvm]; exact State.WarmedH.refl s
  have hat' : ∀ w ∈ vx_at0 own ic cls names, w.before args s' = true := fun w hw => vx_ot_at hW0 hvm.symm (hgood w (List.mem_cons_of_mem _ (List.mem_cons_of_mem _ hw))) (hat w hw)
  have hk' : (Cond.classLink own ik cls).before args s' = true := vx_ot_at hW0 hvm.symm (hgood _ List.mem_cons_self) hk
  have hini' : (Cond.initialized cls).before args s' = true := vx_ot_at hW0 hvm.symm (hgood _ (List.mem_cons_of_mem _ List.mem_cons_self)) hini
  have hU' : vx_Zq Bundle.tN "UNASSIGNED_STACK" Bundle.steD A s' s'.heap := by rw [hhp]; exact vx_Zq.moved hW0.alike (hU.kept hS.2.1)
  have hN' : vx_Zq Bundle.tN "SUPPRESSED_SENTINEL" Bundle.listD A s' s'.heap := by rw [hhp]; exact vx_Zq.moved hW0.alike (hN.kept hS.2.1)
  have h : ∀ w ∈ Bundle.ownAtoms0 own ic cls names, w.before args s' = true := vx_own hat' (vx_isRefq hU'.1) (vx_isRefq hN'.1) hU'.2.word hN'.2.word
  have hown' : s'.vm.findClass own = some m.cls := by rw [hvm]; exact hown
  have hins : (Cond.instantiable cls 6).before args s' = true := h _ (by simp [Bundle.ownAtoms0])
  obtain ⟨vm₁, cX, kX, hfX, hkX, -, -, X₁, st1⟩ := Y.newCold hexec (own := own) (C := cls) (index := ik) (n := 6) hown' hk' hins hini'
    (g := F0 m pc ls rest) rfl (by rw [hb]; exact d0) (Nat.le_refl _) (Nat.le_refl _)
  generalize hT1 : (T.setVm vm₁).pushCell { cls := cX, slots := kX.instanceTypes.map defaultValue, vm := .none } = T1 at X₁ st1
  have hcat : (Value.ref T.heap.size).category = 1 := rfl
  have hcellA : T1.heap[T.heap.size]? = some (freshCell cX kX) := by rw [← hT1]; exact State.heap_pushCell_size _ _
  have d3' : decode c.code (pc + 3) = .ok (.dup, 1) := by rw [hb]; exact d3
  obtain ⟨V, ce, L, Z, hL, hlt, hcl9, hvm9, st⟩ := vx_ctorMade0 X₁ hexec htr (own := own) (cls := cls) (names := names) (ic := ic) hown' hcls hnames h (fun x hx => nomatch hx) hfX hkX hcellA (by rw [hhp]; exact Nat.le_refl _)
    (g := { method := m, pc := pc + 4, locals := ls, stack := .ref T.heap.size :: .ref T.heap.size :: rest, locked := none }) rfl hsize (rest := rest) rfl
    (by rw [hb]; exact d4) hRframes (by simp only [List.map_cons, List.sum_cons, hcat]; omega)
  have Z0 := Stand.forget (locs := []) Z (fun y hy => by rw [hL y hy, hhp]; exact Nat.le_refl _)
  obtain ⟨f1, f2⟩ := vx_frame Z0.same
  rw [hhp] at f1 f2
  have hcid : ce.cls = D.1 ci := by
    rw [hcl9]
    have h1 := (hK.1 ci _ hc).2.1
    rw [hvm] at hfX
    exact Option.some.inj (hfX.symm.trans h1)
  have hh : (V.setCell T.heap.size ce).heap[T.heap.size]? = some ce := heapAt_setCell_self (s := V) ce hlt
  subst hA'
  have X5 := vx_back9 X Y Z0
  have X6 : Stand p l e R s m args below meth c (V.setCell T.heap.size ce) locs (cells + 1) (slots + 6) := { X5 with same := X5.same.mono (by omega) (by omega) }
  have hk9 : ∀ (k : Nat) (x : Nat × va_E), ws[k]? = some x → (V.setCell T.heap.size ce).heap[x.1]? = T.heap[x.1]? := fun k x hx => f2 x.1 ((hP k x hx).lt) (fun z hz => nomatch hz)
  obtain ⟨t, a1, b1⟩ := kk T.heap.size (V.setCell T.heap.size ce).heap ((hP.kept hk9).app (fun k x hx => by
      have hz : k < 1 := (List.getElem?_eq_some_iff.mp hx).1
      rw [show k = 0 by omega] at hx
      cases hx
      exact ⟨_, hc, ce, hh, hcid, hvm9, fun k hk => absurd hk (Nat.not_lt_zero k)⟩)) (hD.push hP rfl (hA _ hS.1)) ⟨Nat.le_trans hS.1 f1, fun q h1 h2 => (f2 q (Nat.lt_of_lt_of_le h1 hS.1) (fun z hz => nomatch hz)).trans (hS.2.1 q h1 h2), hS.2.2⟩ _ rfl X6
  refine ⟨t, st1 _ ?_, b1⟩
  show Steps p.tables e below (T1.setTop { method := m, pc := pc + 3, locals := ls, stack := .ref T.heap.size :: rest, locked := none }) _
  jvm_step X₁.here [X₁.here.top, hexec, d3', Value.category]
  exact st _ a1
/-- 'throw x' of an object that was made before -/
theorem vx_athrow {cc : ByteArray} {pc : Nat} (hexec : p.tables.exec = Jvm.exec) (hb : c.code = cc) {q : Addr} (hdg : decode cc pc = .ok (.athrow, 1)) (k : vx_W p l e R s m args below meth c H locs cells slots Q (F0 m pc ls rest) q) : W p l e R s m args below meth c H locs cells slots Q (F0 m pc ls (.ref q :: rest)) := by
  intro T hT X
  obtain ⟨t, st, hq⟩ := k T hT X
  refine ⟨t, ?_, hq⟩
  have hdg' : decode c.code pc = .ok (.athrow, 1) := by rw [hb]; exact hdg
  jvm_step X.here [X.here.top, hexec, hdg', athrow.wp_sem]
  exact st
end VXK2
/-! ===== END ===== -/
/-! ===== BEGIN a constructor that throws (launches without stack traces) ===== -/
section VXIA
variable {p : Program} {l : Launch} {e : Env} {R : Room} {s : State} {m : MethodId} {args : Array Value} {below : List Frame} {meth : Method} {c : Code} {T : State} {locs : List Loc} {cells slots : Nat}
theorem vx_callI (X : Stand p l e R s m args below meth c T locs cells slots) (hexec : p.tables.exec = Jvm.exec) {own : String} {index : Nat} {y : MethodName} {bytes : ByteArray} {maxL : Nat}
    (hown : s.vm.findClass own = some m.cls) (hy1 : y.name = "<init>") (hlink : (Cond.methodLink own index y).before args s = true) (hinst : (Cond.instanceMethod y).before args s = true)
    (hcode : (Cond.code y bytes maxL none).before args s = true) (hy : y.cls ≠ "java/lang/invoke/MethodHandle" ∧ y.cls ≠ "java/lang/invoke/VarHandle")
    {W9 : Nat} {Pre : Pt → Array Value → Prop} {Post : Pt → Array Value → Option Value → Pt → Prop} {PostX : Pt → Array Value → Addr → Pt → Prop} (hK : vx_Back l R p e below s args y 3 W9 Pre Post PostX)
    {g : JFrame} (hg : g.method = m) (hsize : g.locals.size = c.maxLocals) {a : Addr} {argsL rest : List Value} (hlen : ∀ sig, parseMethodDescriptor y.desc = some sig → argsL.length = sig.parameters.length)
    (hstack : g.stack = argsL.reverse ++ .ref a :: rest) (hW : 2 * g.monitorRoom + (rest.map fun v => v.category).sum ≤ W9) (hdg : decode c.code g.pc = .ok (.invokespecial index, 3))
    (hpre : ∀ vm₁, s.WarmedH vm₁ → Pre ⟨T.setVm vm₁, locs, cells, slots⟩ (Value.ref a :: argsL).toArray) :
    (∃ (v : Option Value) (vm₁ : Vm) (B : Pt), s.WarmedH vm₁ ∧ Stand p l e R s m args below meth c B.U B.locs B.cells B.slots ∧ Post ⟨T.setVm vm₁, locs, cells, slots⟩ (Value.ref a :: argsL).toArray v B ∧
      ∀ target, Steps p.tables e below (B.U.setTop { g with pc := g.pc + 3, stack := v.toList ++ rest }) target → Steps p.tables e below (T.setTop g) target) ∨
    (∃ (q : Addr) (vm₁ : Vm) (B : Pt), s.WarmedH vm₁ ∧ Stand p l e R s m args below meth c B.U B.locs B.cells B.slots ∧ PostX ⟨T.setVm vm₁, locs, cells, slots⟩ (Value.ref a :: argsL).toArray q B ∧
      Steps p.tables e below (T.setTop g) ((B.U.setTop { g with stack := rest }).pushFrame (.throwing q))) := by
  subst hg
  have hpl : e.platform.magicAccessors = ({} : Platform).magicAccessors := by rw [X.admits.platform]
  obtain ⟨mk, methM, cM, kP, vm₁, hnamed, hmethM, hcodeM, -, hlocalsM, -, hkP, -, hW₁, hstep₁⟩ := Steps.initColdArgs (e := e) X.here hexec X.warmed hpl hown hy1 hy hlink hinst hcode (f := g) rfl hlen hstack hdg
  have X₁ := X.noted hW₁
  rcases hK g.method meth c ⟨T.setVm vm₁, locs, cells, slots⟩ { g with stack := rest } (.invokespecial index) mk (Value.ref a :: argsL).toArray X₁ rfl hsize hdg hW (X₁.named hnamed) (hpre vm₁ X₁.warmed) with ⟨v, B, X', hpost, hsteps⟩ | ⟨q, B, X', hpost, hsteps⟩
  · exact Or.inl ⟨v, vm₁, B, X₁.warmed, X', hpost, fun target h => hstep₁ _ fun acts => by rw [doInvoke_state]; exact hsteps.trans h⟩
  · exact Or.inr ⟨q, vm₁, B, X₁.warmed, X', hpost, hstep₁ _ fun acts => by rw [doInvoke_state]; exact hsteps⟩
end VXIA
section VXIB
variable {p : Program} {l : Launch} {e : Env} {R : Room} {s : State} {m : MethodId} {args : Array Value} {below : List Frame} {meth : Method} {c : Code} {H : Heap} {locs : List Loc} {cells slots : Nat}
variable {y : MethodName} {bytes cc : ByteArray} {maxL nL mc ms n index : Nat} {ret : Option FieldType} {ws : List Cond} {rm : Room} {Pc : Array Value → State → Prop} {Qc : Array Value → State → Outcome → State → Prop} {XC : String → State → State → Prop} {free : Addr → Prop} {Ts : List Cond} {own C : String} {b : Addr} {As rest : List Value} {g : JFrame}
theorem vx_runI (S : CallFix p m c cc nL s args Ts own) (hM : vx_Met l y ws rm Pc Qc XC mc ms free) (cw : CallB R s args own index y bytes maxL none ws rm mc ms n ∧ y.name = "<init>" ∧ (Cond.instanceMethod y).before args s = true) (hp : PreS s H Pc (.ref b :: As))
    (hg : g.method = m) (hn : As.length = n) (hsize : g.locals.size = nL) (hstack : g.stack = As.reverse ++ .ref b :: rest) (hW : 2 * g.monitorRoom + (rest.map fun v => v.category).sum ≤ 8) (hdg : decode cc g.pc = .ok (.invokespecial index, 3)) (hf : cells + mc ≤ R.cells ∧ slots + ms ≤ R.slots) :
    vx_Run p l e R s m args below meth c H locs cells slots mc ms g rest (Qc (Value.ref b :: As).toArray) XC free := by
  have hK : vx_Back l R p e below s args y 3 8 (PreOf R mc ms Pc) (PostOf Qc mc ms free) (vx_Post XC mc ms free) := vx_callBack cw.1 hM hp.1
  obtain ⟨⟨-, -, -, -, -, -, hcode, -, hy, hlen, hl⟩, hy1, hin⟩ := cw
  obtain ⟨hx, hb, hml, ho, -⟩ := S
  have hPc := hp.2
  intro T hT X
  rcases vx_callI X hx (bytes := bytes) (maxL := maxL) ho hy1 hl hin hcode hy hK hg (hsize.trans hml.symm) (a := b) (argsL := As) (rest := rest) (fun sig h => hn.trans (hlen sig h)) hstack hW (by rw [hb]; exact hdg)
    (fun vm₁ hW₁ => ⟨hf.1, hf.2, hPc (T.setVm vm₁) hT hW₁⟩) with ⟨v, vm₁, ⟨U', l2, c2, s2⟩, hW₁, X', ⟨g', mk, t, L, e1, e2, hq, h1, hL, h2, h3⟩, st⟩ | ⟨q, vm₁, ⟨U', l2, c2, s2⟩, hW₁, X', ⟨g', mk, t, L, E, ce, e1, e2, hq, hce, hcv, hcl, h1, hL, h2, h3⟩, st⟩
  · dsimp only [Pt.U, Pt.locs, Pt.cells, Pt.slots] at X' e1 e2 h1 h2 h3 st
    subst h1; subst h2; subst h3
    exact Or.inl ⟨v, (T.setVm vm₁).calling g' mk (Value.ref b :: As).toArray, t, U', L, hT, X', hL, e1, e2, hq, st⟩
  · dsimp only [Pt.U, Pt.locs, Pt.cells, Pt.slots] at X' e1 e2 h1 h2 h3 st hcl
    subst h1; subst h2; subst h3
    exact Or.inr ⟨q, (T.setVm vm₁).calling g' mk (Value.ref b :: As).toArray, t, U', L, E, ce, hT, X', hL, e1, e2, hq, hce, hcv, vx_cls hW₁ hcl, st⟩
end VXIB
/-! ===== END ===== -/
/-! ===== BEGIN a private constructor of a nest mate that throws ===== -/
section VXIC
variable {p : Program} {l : Launch} {e : Env} {R : Room} {s : State} {m : MethodId} {args : Array Value} {below : List Frame} {meth : Method} {c : Code} {T : State} {locs : List Loc} {cells slots : Nat}
theorem vx_callIN (X : Stand p l e R s m args below meth c T locs cells slots) (hexec : p.tables.exec = Jvm.exec) {own : String} {index : Nat} {host : String} {y : MethodName} {bytes : ByteArray} {maxL : Nat}
    (hown : s.vm.findClass own = some m.cls) (hy1 : y.name = "<init>") (hlink : (Cond.methodLinkNest own index y host).before args s = true) (hinst : (Cond.instanceMethod y).before args s = true)
    (hcode : (Cond.code y bytes maxL none).before args s = true) (hy : y.cls ≠ "java/lang/invoke/MethodHandle" ∧ y.cls ≠ "java/lang/invoke/VarHandle")
    {W9 : Nat} {Pre : Pt → Array Value → Prop} {Post : Pt → Array Value → Option Value → Pt → Prop} {PostX : Pt → Array Value → Addr → Pt → Prop} (hK : vx_Back l R p e below s args y 3 W9 Pre Post PostX)
    {g : JFrame} (hg : g.method = m) (hsize : g.locals.size = c.maxLocals) {a : Addr} {argsL rest : List Value} (hlen : ∀ sig, parseMethodDescriptor y.desc = some sig → argsL.length = sig.parameters.length)
    (hstack : g.stack = argsL.reverse ++ .ref a :: rest) (hW : 2 * g.monitorRoom + (rest.map fun v => v.category).sum ≤ W9) (hdg : decode c.code g.pc = .ok (.invokespecial index, 3))
    (hpre : ∀ vm₁, s.WarmedH vm₁ → Pre ⟨T.setVm vm₁, locs, cells, slots⟩ (Value.ref a :: argsL).toArray) :
    (∃ (v : Option Value) (vm₁ : Vm) (B : Pt), s.WarmedH vm₁ ∧ Stand p l e R s m args below meth c B.U B.locs B.cells B.slots ∧ Post ⟨T.setVm vm₁, locs, cells, slots⟩ (Value.ref a :: argsL).toArray v B ∧
      ∀ target, Steps p.tables e below (B.U.setTop { g with pc := g.pc + 3, stack := v.toList ++ rest }) target → Steps p.tables e below (T.setTop g) target) ∨
    (∃ (q : Addr) (vm₁ : Vm) (B : Pt), s.WarmedH vm₁ ∧ Stand p l e R s m args below meth c B.U B.locs B.cells B.slots ∧ PostX ⟨T.setVm vm₁, locs, cells, slots⟩ (Value.ref a :: argsL).toArray q B ∧
      Steps p.tables e below (T.setTop g) ((B.U.setTop { g with stack := rest }).pushFrame (.throwing q))) := by
  subst hg
  have hpl : e.platform.magicAccessors = ({} : Platform).magicAccessors := by rw [X.admits.platform]
  obtain ⟨mk, methM, cM, kP, vm₁, hnamed, hmethM, hcodeM, -, hlocalsM, -, hkP, -, hW₁, hstep₁⟩ := Steps.initColdArgsNest (e := e) X.here hexec X.warmed hpl hown hy1 hy hlink hinst hcode (f := g) rfl hlen hstack hdg
  have X₁ := X.noted hW₁
  rcases hK g.method meth c ⟨T.setVm vm₁, locs, cells, slots⟩ { g with stack := rest } (.invokespecial index) mk (Value.ref a :: argsL).toArray X₁ rfl hsize hdg hW (X₁.named hnamed) (hpre vm₁ X₁.warmed) with ⟨v, B, X', hpost, hsteps⟩ | ⟨q, B, X', hpost, hsteps⟩
  · exact Or.inl ⟨v, vm₁, B, X₁.warmed, X', hpost, fun target h => hstep₁ _ fun acts => by rw [doInvoke_state]; exact hsteps.trans h⟩
  · exact Or.inr ⟨q, vm₁, B, X₁.warmed, X', hpost, hstep₁ _ fun acts => by rw [doInvoke_state]; exact hsteps⟩
end VXIC
section VXID
variable {p : Program} {l : Launch} {e : Env} {R : Room} {s : State} {m : MethodId} {args : Array Value} {below : List Frame} {meth : Method} {c : Code} {H : Heap} {locs : List Loc} {cells slots : Nat}
theorem vx_runIN {y : MethodName} {bytes cc : ByteArray} {maxL nL mc ms n index : Nat} {ws : List Cond} {rm : Room} {Pc : Array Value → State → Prop} {Qc : Array Value → State → Outcome → State → Prop} {XC : String → State → State → Prop} {free : Addr → Prop} {Ts : List Cond} {own host : String} {b : Addr} {As rest : List Value} {g : JFrame}
    (S : CallFix p m c cc nL s args Ts own) (hM : vx_Met l y ws rm Pc Qc XC mc ms free) (cw : va_CN R s args own index y host bytes maxL none ws rm mc ms n ∧ y.name = "<init>" ∧ (Cond.instanceMethod y).before args s = true) (hp : PreS s H Pc (.ref b :: As))
    (hg : g.method = m) (hn : As.length = n) (hsize : g.locals.size = nL) (hstack : g.stack = As.reverse ++ .ref b :: rest) (hW : 2 * g.monitorRoom + (rest.map fun v => v.category).sum ≤ 8) (hdg : decode cc g.pc = .ok (.invokespecial index, 3)) (hf : cells + mc ≤ R.cells ∧ slots + ms ≤ R.slots) :
    vx_Run p l e R s m args below meth c H locs cells slots mc ms g rest (Qc (Value.ref b :: As).toArray) XC free := by
  obtain ⟨⟨⟨hrc, hrs, hfr, hlo, hws, hcw⟩, hcode, hini, hy, hlen, hl⟩, hx1, hx2⟩ := cw
  have hK : vx_Back l R p e below s args y 3 8 (PreOf R mc ms Pc) (PostOf Qc mc ms free) (vx_Post XC mc ms free) := vx_back (bytes := bytes) (maxL := maxL) (ret := none) hM hp.1 hrc hrs hfr hlo hws hcw (fun a' U hW => word_at hW (Or.inl (by first | rfl | simp [Cond.onTables, Cond.keeps, Cond.steady])) hini)
  obtain ⟨hx, hb, hml, ho, -⟩ := S
  have hPc := hp.2
  intro T hT X
  rcases vx_callIN X hx (bytes := bytes) (maxL := maxL) ho hx1 hl hx2 hcode hy hK hg (hsize.trans hml.symm) (a := b) (argsL := As) (rest := rest) (fun sig h => hn.trans (hlen sig h)) hstack hW (by rw [hb]; exact hdg)
    (fun vm₁ hW₁ => ⟨hf.1, hf.2, hPc (T.setVm vm₁) hT hW₁⟩) with ⟨v, vm₁, ⟨U', l2, c2, s2⟩, hW₁, X', ⟨g', mk, t, L, e1, e2, hq, h1, hL, h2, h3⟩, st⟩ | ⟨q, vm₁, ⟨U', l2, c2, s2⟩, hW₁, X', ⟨g', mk, t, L, E, ce, e1, e2, hq, hce, hcv, hcl, h1, hL, h2, h3⟩, st⟩
  · dsimp only [Pt.U, Pt.locs, Pt.cells, Pt.slots] at X' e1 e2 h1 h2 h3 st
    subst h1; subst h2; subst h3
    exact Or.inl ⟨v, (T.setVm vm₁).calling g' mk (Value.ref b :: As).toArray, t, U', L, hT, X', hL, e1, e2, hq, st⟩
  · dsimp only [Pt.U, Pt.locs, Pt.cells, Pt.slots] at X' e1 e2 h1 h2 h3 st hcl
    subst h1; subst h2; subst h3
    exact Or.inr ⟨q, (T.setVm vm₁).calling g' mk (Value.ref b :: As).toArray, t, U', L, E, ce, hT, X', hL, e1, e2, hq, hce, hcv, vx_cls hW₁ hcl, st⟩
end VXID
/-! ===== END ===== -/
/-! ===== BEGIN a method of a class above, found by the receiver, that may throw (follows va_callVU, va_runU of this kit) ===== -/
section
variable {p : Program} {l : Launch} {e : Env} {R : Room} {s : State} {m : MethodId} {args : Array Value} {below : List Frame} {meth : Method} {c : Code} {H : Heap} {locs : List Loc} {cells slots : Nat}
theorem vx_callVU {T : State} {locs : List Loc} {cells slots : Nat} (X : Stand p l e R s m args below meth c T locs cells slots) (hexec : p.tables.exec = Jvm.exec) {own C owner : String} {index : Nat} {x y : MethodName} {bytes : ByteArray} {maxL : Nat} {ret : Option FieldType}
    (hown : s.vm.findClass own = some m.cls) (hlink : (Cond.methodLink own index x).before args s = true) (hsame : (Cond.sameMethod x.cls owner x.name x.desc).before args s = true)
    (hd0 : va_Decl s ⟨owner, x.name, x.desc⟩) (howner : owner ≠ "java/lang/invoke/MethodHandle" ∧ owner ≠ "java/lang/invoke/VarHandle")
    (hsel : (Cond.selects C x y).before args s = true) (hinst : (Cond.instanceMethod y).before args s = true) (hcode : (Cond.code y bytes maxL ret).before args s = true)
    {W : Nat} {Pre : Pt → Array Value → Prop} {Post : Pt → Array Value → Option Value → Pt → Prop} {PostX : Pt → Array Value → Addr → Pt → Prop} (hK : vx_Back l R p e below s args y 3 W Pre Post PostX)
    {b : Addr} {cellB : Cell} (hcell : T.heap[b]? = some cellB) (hobj : cellB.vm.isStatics = false) (hcls : s.vm.findClass C = some cellB.cls)
    {g : JFrame} (hg : g.method = m) (hsize : g.locals.size = c.maxLocals) {argsL rest : List Value} (hlen : ∀ sig, parseMethodDescriptor x.desc = some sig → argsL.length = sig.parameters.length)
    (hstack : g.stack = argsL.reverse ++ .ref b :: rest) (hW : 2 * g.monitorRoom + (rest.map fun v => v.category).sum ≤ W) (hdg : decode c.code g.pc = .ok (.invokevirtual index, 3))
    (hpre : ∀ vm₁, s.WarmedH vm₁ → Pre ⟨T.setVm vm₁, locs, cells, slots⟩ (Value.ref b :: argsL).toArray) :
    (∃ (v : Option Value) (vm₁ : Vm) (B : Pt), s.WarmedH vm₁ ∧ Stand p l e R s m args below meth c B.U B.locs B.cells B.slots ∧ Post ⟨T.setVm vm₁, locs, cells, slots⟩ (Value.ref b :: argsL).toArray v B ∧
      ∀ target, Steps p.tables e below (B.U.setTop { g with pc := g.pc + 3, stack := v.toList ++ rest }) target → Steps p.tables e below (T.setTop g) target) ∨
    (∃ (q : Addr) (vm₁ : Vm) (B : Pt), s.WarmedH vm₁ ∧ Stand p l e R s m args below meth c B.U B.locs B.cells B.slots ∧ PostX ⟨T.setVm vm₁, locs, cells, slots⟩ (Value.ref b :: argsL).toArray q B ∧
      Steps p.tables e below (T.setTop g) ((B.U.setTop { g with stack := rest }).pushFrame (.throwing q))) := by
  obtain ⟨r0, r, hn, hrm, hstR, hsigR⟩ := hd0
  obtain ⟨cn, ck, r1, hcn, hck, hni, hf, hn1⟩ := Cond.sameMethod_found hsame
  cases hn.symm.trans hn1
  obtain ⟨mk, methM, hnamed, hmethM, -, habM⟩ := Cond.instanceMethod_spec hinst
  obtain ⟨c2, r2, m2, q1, q2, q3, q4, kP, hkP, hkPi⟩ := Cond.selects_spec hsel
  cases hcls.symm.trans q1
  cases hf.symm.trans q2
  cases hnamed.symm.trans q3
  have hselP : selectMethod e.platform s.vm cellB.cls r0 = .method mk := by rw [Launch.admits_selectMethod X.admits]; exact q4
  obtain ⟨vm₁, X₁, hstep₁⟩ := X.invokevirtualUp hexec hown hlink hsame howner hn hrm hstR (a := b) (cell := cellB) hcell
    (fun z h => by rw [h] at hobj; cases hobj) hselP hmethM habM hkP hkPi (g := g) hg (argsL := argsL) (rest := rest) (hlen _ hsigR) hstack hdg
  rcases hK m meth c ⟨T.setVm vm₁, locs, cells, slots⟩ { g with stack := rest } (.invokevirtual index) mk (Value.ref b :: argsL).toArray X₁ hg hsize hdg hW (X₁.named hnamed) (hpre vm₁ X₁.warmed) with ⟨v, B, X', hpost, hsteps⟩ | ⟨q, B, X', hpost, hsteps⟩
  · exact Or.inl ⟨v, vm₁, B, X₁.warmed, X', hpost, fun target h => hstep₁ _ fun acts => by rw [doInvoke_state]; exact hsteps.trans h⟩
  · exact Or.inr ⟨q, vm₁, B, X₁.warmed, X', hpost, hstep₁ _ fun acts => by rw [doInvoke_state]; exact hsteps⟩
theorem vx_runU {x y : MethodName} {bytes cc : ByteArray} {maxL nL mc ms n index : Nat} {ret : Option FieldType} {ws : List Cond} {rm : Room} {Pc : Array Value → State → Prop} {Qc : Array Value → State → Outcome → State → Prop} {XC : String → State → State → Prop} {free : Addr → Prop} {Ts : List Cond} {own C owner : String} {b : Addr} {As rest : List Value} {g : JFrame}
    (S : CallFix p m c cc nL s args Ts own) (hM : vx_Met l y ws rm Pc Qc XC mc ms free) (cw : va_CU R s args own C owner index x y bytes maxL ret ws rm mc ms n) (hp : PreV s H C b Pc As)
    (hg : g.method = m) (hn : As.length = n) (hsize : g.locals.size = nL) (hstack : g.stack = As.reverse ++ .ref b :: rest) (hW : 2 * g.monitorRoom + (rest.map fun v => v.category).sum ≤ 8) (hdg : decode cc g.pc = .ok (.invokevirtual index, 3)) (hf : cells + mc ≤ R.cells ∧ slots + ms ≤ R.slots) :
    vx_Run p l e R s m args below meth c H locs cells slots mc ms g rest (Qc (Value.ref b :: As).toArray) XC free := by
  obtain ⟨hrc, hrs, hfr, hlo, hws, hcw⟩ := cw.back
  have hini := cw.init
  have hK : vx_Back l R p e below s args y 3 8 (PreOf R mc ms Pc) (PostOf Qc mc ms free) (vx_Post XC mc ms free) := vx_back (bytes := bytes) (maxL := maxL) (ret := ret) hM hp.1 hrc hrs hfr hlo hws hcw (fun a' U hW => word_at hW (Or.inl (by first | rfl | simp [Cond.onTables, Cond.keeps, Cond.steady])) hini)
  obtain ⟨hx, hb, hml, ho, -⟩ := S
  obtain ⟨-, ⟨cellB, hcB, hoB, hclB⟩, hPc⟩ := hp
  intro T hT X
  rcases vx_callVU X hx (C := C) (owner := owner) (bytes := bytes) (maxL := maxL) (ret := ret) ho cw.link cw.same cw.decl cw.notMH cw.sel cw.inst cw.code hK (by rw [hT]; exact hcB) hoB hclB hg (hsize.trans hml.symm) (argsL := As) (rest := rest) (fun sig h => hn.trans (cw.len sig h)) hstack hW (by rw [hb]; exact hdg)
    (fun vm₁ hW₁ => ⟨hf.1, hf.2, hPc (T.setVm vm₁) hT hW₁⟩) with ⟨v, vm₁, ⟨U', l2, c2, s2⟩, hW₁, X', ⟨g', mk, t, L, e1, e2, hq, h1, hL, h2, h3⟩, st⟩ | ⟨q, vm₁, ⟨U', l2, c2, s2⟩, hW₁, X', ⟨g', mk, t, L, E, ce, e1, e2, hq, hce, hcv, hcl, h1, hL, h2, h3⟩, st⟩
  · dsimp only [Pt.U, Pt.locs, Pt.cells, Pt.slots] at X' e1 e2 h1 h2 h3 st
    subst h1; subst h2; subst h3
    exact Or.inl ⟨v, (T.setVm vm₁).calling g' mk (Value.ref b :: As).toArray, t, U', L, hT, X', hL, e1, e2, hq, st⟩
  · dsimp only [Pt.U, Pt.locs, Pt.cells, Pt.slots] at X' e1 e2 h1 h2 h3 st hcl
    subst h1; subst h2; subst h3
    exact Or.inr ⟨q, (T.setVm vm₁).calling g' mk (Value.ref b :: As).toArray, t, U', L, E, ce, hT, X', hL, e1, e2, hq, hce, hcv, vx_cls hW₁ hcl, st⟩
end
/-! ===== END ===== -/
/-! ===== BEGIN super.m(..) that may throw (follows va_callSU, va_runSU) ===== -/
section
variable {p : Program} {l : Launch} {e : Env} {R : Room} {s : State} {m : MethodId} {args : Array Value} {below : List Frame} {meth : Method} {c : Code} {H : Heap} {locs : List Loc} {cells slots : Nat}
theorem vx_callSU {T : State} {locs : List Loc} {cells slots : Nat} (X : Stand p l e R s m args below meth c T locs cells slots) (hexec : p.tables.exec = Jvm.exec) {own : String} {index : Nat} {y : MethodName} {bytes : ByteArray} {maxL : Nat} {ret : Option FieldType}
    (hown : s.vm.findClass own = some m.cls) (hlink : (Cond.methodLink own index y).before args s = true) (hsame : (Cond.sameMethod y.cls y.cls y.name y.desc).before args s = true) (hsup : (Cond.superclass own y.cls).before args s = true)
    (hinst : (Cond.instanceMethod y).before args s = true) (hcode : (Cond.code y bytes maxL ret).before args s = true) (hno : y.name ≠ "<init>")
    {W : Nat} {Pre : Pt → Array Value → Prop} {Post : Pt → Array Value → Option Value → Pt → Prop} {PostX : Pt → Array Value → Addr → Pt → Prop} (hK : vx_Back l R p e below s args y 3 W Pre Post PostX)
    {b : Addr} {cellB : Cell} {kB : Class} (hcell : T.heap[b]? = some cellB) (hobj : cellB.vm.isStatics = false) (hkB : s.vm.classes[cellB.cls]? = some kB)
    {g : JFrame} (hg : g.method = m) (hsize : g.locals.size = c.maxLocals) {argsL rest : List Value} (hlen : ∀ sig, parseMethodDescriptor y.desc = some sig → argsL.length = sig.parameters.length)
    (hstack : g.stack = argsL.reverse ++ .ref b :: rest) (hW : 2 * g.monitorRoom + (rest.map fun v => v.category).sum ≤ W) (hdg : decode c.code g.pc = .ok (.invokespecial index, 3))
    (hpre : ∀ vm₁, s.WarmedH vm₁ → Pre ⟨T.setVm vm₁, locs, cells, slots⟩ (Value.ref b :: argsL).toArray) :
    (∃ (v : Option Value) (vm₁ : Vm) (B : Pt), s.WarmedH vm₁ ∧ Stand p l e R s m args below meth c B.U B.locs B.cells B.slots ∧ Post ⟨T.setVm vm₁, locs, cells, slots⟩ (Value.ref b :: argsL).toArray v B ∧
      ∀ target, Steps p.tables e below (B.U.setTop { g with pc := g.pc + 3, stack := v.toList ++ rest }) target → Steps p.tables e below (T.setTop g) target) ∨
    (∃ (q : Addr) (vm₁ : Vm) (B : Pt), s.WarmedH vm₁ ∧ Stand p l e R s m args below meth c B.U B.locs B.cells B.slots ∧ PostX ⟨T.setVm vm₁, locs, cells, slots⟩ (Value.ref b :: argsL).toArray q B ∧
      Steps p.tables e below (T.setTop g) ((B.U.setTop { g with stack := rest }).pushFrame (.throwing q))) := by
  obtain ⟨mk, methM, hnamed, hmethM, hstM, habM⟩ := Cond.instanceMethod_spec hinst
  obtain ⟨methM', cM, hmethM', -, -, -, -, -, -, hsigM⟩ := Cond.code_spec hnamed hcode
  cases hmethM.symm.trans hmethM'
  obtain ⟨ps, dk, kp, hps, hdk, hkp, hsuper, -, -, hnid⟩ := Cond.superclass_spec hown hsup
  have hn : s.methodNamed? ⟨y.cls, y.name, y.desc⟩ = some mk := hnamed
  have hpm : ps = mk.cls := Option.some.inj (hps.symm.trans (findClass_of_methodNamed hnamed))
  have hsub : s.vm.isSubclass ps mk.cls = true := by rw [hpm]; simp [Vm.isSubclass, Vm.isSubclassAux]
  obtain ⟨vm₁, X₁, hstep₁⟩ := X.invokespecialUp hexec hown hlink hsame hn hmethM hstM habM hno hdk hnid hps hsuper hsub (a := b) (cell := cellB) hcell
    (fun z h => by rw [h] at hobj; cases hobj) hkB (g := g) hg (argsL := argsL) (rest := rest) (hlen _ hsigM) hstack hdg
  rcases hK m meth c ⟨T.setVm vm₁, locs, cells, slots⟩ { g with stack := rest } (.invokespecial index) mk (Value.ref b :: argsL).toArray X₁ hg hsize hdg hW (X₁.named hnamed) (hpre vm₁ X₁.warmed) with ⟨v, B, X', hpost, hsteps⟩ | ⟨q, B, X', hpost, hsteps⟩
  · exact Or.inl ⟨v, vm₁, B, X₁.warmed, X', hpost, fun target h => hstep₁ _ (by rw [doInvoke_state]; exact hsteps.trans h)⟩
  · exact Or.inr ⟨q, vm₁, B, X₁.warmed, X', hpost, hstep₁ _ (by rw [doInvoke_state]; exact hsteps)⟩
theorem vx_runSU {y : MethodName} {bytes cc : ByteArray} {maxL nL mc ms n index : Nat} {ret : Option FieldType} {ws : List Cond} {rm : Room} {Pc : Array Value → State → Prop} {Qc : Array Value → State → Outcome → State → Prop} {XC : String → State → State → Prop} {free : Addr → Prop} {Ts : List Cond} {own C : String} {cC : ClassId} {b : Addr} {As rest : List Value} {g : JFrame}
    (hat : ClassAt s C cC) (S : CallFix p m c cc nL s args Ts own) (hM : vx_Met l y ws rm Pc Qc XC mc ms free) (cw : va_CS R s args own index y bytes maxL ret ws rm mc ms n) (hp : PreV s H C b Pc As)
    (hg : g.method = m) (hn : As.length = n) (hsize : g.locals.size = nL) (hstack : g.stack = As.reverse ++ .ref b :: rest) (hW : 2 * g.monitorRoom + (rest.map fun v => v.category).sum ≤ 8) (hdg : decode cc g.pc = .ok (.invokespecial index, 3)) (hf : cells + mc ≤ R.cells ∧ slots + ms ≤ R.slots) :
    vx_Run p l e R s m args below meth c H locs cells slots mc ms g rest (Qc (Value.ref b :: As).toArray) XC free := by
  obtain ⟨⟨hrc, hrs, hfr, hlo, hws, hcw⟩, hl1, hl2, hl3, hl4, hini, hcode, hno, hlen⟩ := cw
  have hK : vx_Back l R p e below s args y 3 8 (PreOf R mc ms Pc) (PostOf Qc mc ms free) (vx_Post XC mc ms free) := vx_back (bytes := bytes) (maxL := maxL) (ret := ret) hM hp.1 hrc hrs hfr hlo hws hcw (fun a' U hW => word_at hW (Or.inl (by first | rfl | simp [Cond.onTables, Cond.keeps, Cond.steady])) hini)
  obtain ⟨hx, hb, hml, ho, -⟩ := S
  obtain ⟨-, ⟨cellB, hcB, hoB, hclB⟩, hPc⟩ := hp
  obtain ⟨hfc, kB, hkB, -⟩ := hat
  cases hfc.symm.trans hclB
  intro T hT X
  rcases vx_callSU X hx (bytes := bytes) (maxL := maxL) (ret := ret) ho hl1 hl2 hl3 hl4 hcode hno hK (by rw [hT]; exact hcB) hoB hkB hg (hsize.trans hml.symm) (argsL := As) (rest := rest) (fun sig h => hn.trans (hlen sig h)) hstack hW (by rw [hb]; exact hdg)
    (fun vm₁ hW₁ => ⟨hf.1, hf.2, hPc (T.setVm vm₁) hT hW₁⟩) with ⟨v, vm₁, ⟨U', l2, c2, s2⟩, hW₁, X', ⟨g', mk, t, L, e1, e2, hq, h1, hL, h2, h3⟩, st⟩ | ⟨q, vm₁, ⟨U', l2, c2, s2⟩, hW₁, X', ⟨g', mk, t, L, E, ce, e1, e2, hq, hce, hcv, hcl, h1, hL, h2, h3⟩, st⟩
  · dsimp only [Pt.U, Pt.locs, Pt.cells, Pt.slots] at X' e1 e2 h1 h2 h3 st
    subst h1; subst h2; subst h3
    exact Or.inl ⟨v, (T.setVm vm₁).calling g' mk (Value.ref b :: As).toArray, t, U', L, hT, X', hL, e1, e2, hq, st⟩
  · dsimp only [Pt.U, Pt.locs, Pt.cells, Pt.slots] at X' e1 e2 h1 h2 h3 st hcl
    subst h1; subst h2; subst h3
    exact Or.inr ⟨q, (T.setVm vm₁).calling g' mk (Value.ref b :: As).toArray, t, U', L, E, ce, hT, X', hL, e1, e2, hq, hce, hcv, vx_cls hW₁ hcl, st⟩
end
/-! ===== END ===== -/
/-! ===== BEGIN a private method of a nest mate that may throw (follows va_callVN, va_callSN, va_runVN, va_runSN) ===== -/
section
variable {p : Program} {l : Launch} {e : Env} {R : Room} {s : State} {m : MethodId} {args : Array Value} {below : List Frame} {meth : Method} {c : Code} {H : Heap} {locs : List Loc} {cells slots : Nat}
variable {T : State}
theorem vx_callVN (X : Stand p l e R s m args below meth c T locs cells slots) (hexec : p.tables.exec = Jvm.exec) {own C : String} {index : Nat} {host : String} {y : MethodName} {bytes : ByteArray} {maxL : Nat} {ret : Option FieldType}
    (hown : s.vm.findClass own = some m.cls) (hlink : (Cond.methodLinkNest own index y host).before args s = true) (hinst : (Cond.instanceMethod y).before args s = true) (hsel : (Cond.selects C y y).before args s = true)
    (hcode : (Cond.code y bytes maxL ret).before args s = true) (hy : y.cls ≠ "java/lang/invoke/MethodHandle" ∧ y.cls ≠ "java/lang/invoke/VarHandle")
    {W : Nat} {Pre : Pt → Array Value → Prop} {Post : Pt → Array Value → Option Value → Pt → Prop} {PostX : Pt → Array Value → Addr → Pt → Prop} (hK : vx_Back l R p e below s args y 3 W Pre Post PostX)
    {b : Addr} {cellB : Cell} (hcell : T.heap[b]? = some cellB) (hobj : cellB.vm.isStatics = false) (hcls : s.vm.findClass C = some cellB.cls)
    {g : JFrame} (hg : g.method = m) (hsize : g.locals.size = c.maxLocals) {argsL rest : List Value} (hlen : ∀ sig, parseMethodDescriptor y.desc = some sig → argsL.length = sig.parameters.length)
    (hstack : g.stack = argsL.reverse ++ .ref b :: rest) (hW : 2 * g.monitorRoom + (rest.map fun v => v.category).sum ≤ W) (hdg : decode c.code g.pc = .ok (.invokevirtual index, 3))
    (hpre : ∀ vm₁, s.WarmedH vm₁ → Pre ⟨T.setVm vm₁, locs, cells, slots⟩ (Value.ref b :: argsL).toArray) :
    (∃ (v : Option Value) (vm₁ : Vm) (B : Pt), s.WarmedH vm₁ ∧ Stand p l e R s m args below meth c B.U B.locs B.cells B.slots ∧ Post ⟨T.setVm vm₁, locs, cells, slots⟩ (Value.ref b :: argsL).toArray v B ∧
      ∀ target, Steps p.tables e below (B.U.setTop { g with pc := g.pc + 3, stack := v.toList ++ rest }) target → Steps p.tables e below (T.setTop g) target) ∨
    (∃ (q : Addr) (vm₁ : Vm) (B : Pt), s.WarmedH vm₁ ∧ Stand p l e R s m args below meth c B.U B.locs B.cells B.slots ∧ PostX ⟨T.setVm vm₁, locs, cells, slots⟩ (Value.ref b :: argsL).toArray q B ∧
      Steps p.tables e below (T.setTop g) ((B.U.setTop { g with stack := rest }).pushFrame (.throwing q))) := by
  obtain ⟨mk, methM, hnamed, hmethM, hstM, habM⟩ := Cond.instanceMethod_spec hinst
  obtain ⟨methM', cM, hmethM', -, -, -, -, -, -, hsigM⟩ := Cond.code_spec hnamed hcode
  cases hmethM.symm.trans hmethM'
  obtain ⟨c2, r2, m2, q1, q2, q3, q4, kP, hkP, hkPi⟩ := Cond.selects_spec hsel
  cases hcls.symm.trans q1
  cases (State.methodFound?_of_named hnamed hy).symm.trans q2
  cases hnamed.symm.trans q3
  have hselP : selectMethod e.platform s.vm cellB.cls mk = .method mk := by rw [Launch.admits_selectMethod X.admits]; exact q4
  obtain ⟨vm₁, X₁, hstep₁⟩ := X.invokevirtualNest hexec hown hlink hnamed hmethM hstM hkP hkPi hy (a := b) (cell := cellB) hcell
    (fun z h => by rw [h] at hobj; cases hobj) hselP hmethM habM hkP hkPi (g := g) hg (argsL := argsL) (rest := rest) (hlen _ hsigM) hstack hdg
  rcases hK m meth c ⟨T.setVm vm₁, locs, cells, slots⟩ { g with stack := rest } (.invokevirtual index) mk (Value.ref b :: argsL).toArray X₁ hg hsize hdg hW (X₁.named hnamed) (hpre vm₁ X₁.warmed) with ⟨v, B, X', hpost, hsteps⟩ | ⟨q, B, X', hpost, hsteps⟩
  · exact Or.inl ⟨v, vm₁, B, X₁.warmed, X', hpost, fun target h => hstep₁ _ fun acts => by rw [doInvoke_state]; exact hsteps.trans h⟩
  · exact Or.inr ⟨q, vm₁, B, X₁.warmed, X', hpost, hstep₁ _ fun acts => by rw [doInvoke_state]; exact hsteps⟩
theorem vx_callSN (X : Stand p l e R s m args below meth c T locs cells slots) (hexec : p.tables.exec = Jvm.exec) {own : String} {index : Nat} {host : String} {y : MethodName} {bytes : ByteArray} {maxL : Nat} {ret : Option FieldType}
    (hown : s.vm.findClass own = some m.cls) (hlink : (Cond.methodLinkNest own index y host).before args s = true) (hstat : (Cond.static y).before args s = true) (hinit : (Cond.initialized y.cls).before args s = true)
    (hcode : (Cond.code y bytes maxL ret).before args s = true) (hy : y.cls ≠ "java/lang/invoke/MethodHandle" ∧ y.cls ≠ "java/lang/invoke/VarHandle")
    {W : Nat} {Pre : Pt → Array Value → Prop} {Post : Pt → Array Value → Option Value → Pt → Prop} {PostX : Pt → Array Value → Addr → Pt → Prop} (hK : vx_Back l R p e below s args y 3 W Pre Post PostX)
    {g : JFrame} (hg : g.method = m) (hsize : g.locals.size = c.maxLocals) {argsL rest : List Value} (hlen : ∀ sig, parseMethodDescriptor y.desc = some sig → argsL.length = sig.parameters.length)
    (hstack : g.stack = argsL.reverse ++ rest) (hW : 2 * g.monitorRoom + (rest.map fun v => v.category).sum ≤ W) (hdg : decode c.code g.pc = .ok (.invokestatic index, 3))
    (hpre : ∀ vm₁, s.WarmedH vm₁ → Pre ⟨T.setVm vm₁, locs, cells, slots⟩ argsL.toArray) :
    (∃ (v : Option Value) (vm₁ : Vm) (B : Pt), s.WarmedH vm₁ ∧ Stand p l e R s m args below meth c B.U B.locs B.cells B.slots ∧ Post ⟨T.setVm vm₁, locs, cells, slots⟩ argsL.toArray v B ∧
      ∀ target, Steps p.tables e below (B.U.setTop { g with pc := g.pc + 3, stack := v.toList ++ rest }) target → Steps p.tables e below (T.setTop g) target) ∨
    (∃ (q : Addr) (vm₁ : Vm) (B : Pt), s.WarmedH vm₁ ∧ Stand p l e R s m args below meth c B.U B.locs B.cells B.slots ∧ PostX ⟨T.setVm vm₁, locs, cells, slots⟩ argsL.toArray q B ∧
      Steps p.tables e below (T.setTop g) ((B.U.setTop { g with stack := rest }).pushFrame (.throwing q))) := by
  obtain ⟨mk, hnamed⟩ := Cond.code_named hcode
  obtain ⟨methM, cM, hmethM, -, -, -, -, -, -, hsigM⟩ := Cond.code_spec hnamed hcode
  have hstatic : methM.isStatic = true := Cond.static_spec hnamed hmethM hstat
  obtain ⟨kP, hkP, -⟩ := className_of_methodNamed hnamed
  have hinitP : kP.init = .initialized := Cond.initialized_spec (findClass_of_methodNamed hnamed) hkP hinit
  obtain ⟨vm₁, X₁, hstep₁⟩ := X.invokestaticNest hexec hown hlink hnamed hmethM hstatic hkP hinitP hy (g := g) hg (argsL := argsL) (rest := rest) (hlen _ hsigM) hstack hdg
  rcases hK m meth c ⟨T.setVm vm₁, locs, cells, slots⟩ { g with stack := rest } (.invokestatic index) mk argsL.toArray X₁ hg hsize hdg hW (X₁.named hnamed) (hpre vm₁ X₁.warmed) with ⟨v, B, X', hpost, hsteps⟩ | ⟨q, B, X', hpost, hsteps⟩
  · exact Or.inl ⟨v, vm₁, B, X₁.warmed, X', hpost, fun target h => hstep₁ _ fun acts => by rw [doInvoke_state]; exact hsteps.trans h⟩
  · exact Or.inr ⟨q, vm₁, B, X₁.warmed, X', hpost, hstep₁ _ fun acts => by rw [doInvoke_state]; exact hsteps⟩
theorem vx_runVN {y : MethodName} {bytes cc : ByteArray} {maxL nL mc ms n index : Nat} {ret : Option FieldType} {ws : List Cond} {rm : Room} {Pc : Array Value → State → Prop} {Qc : Array Value → State → Outcome → State → Prop} {XC : String → State → State → Prop} {free : Addr → Prop} {Ts : List Cond} {own C host : String} {b : Addr} {As rest : List Value} {g : JFrame}
    (S : CallFix p m c cc nL s args Ts own) (hM : vx_Met l y ws rm Pc Qc XC mc ms free) (cw : va_CN R s args own index y host bytes maxL ret ws rm mc ms n ∧ (Cond.instanceMethod y).before args s = true ∧ (Cond.selects C y y).before args s = true) (hp : PreV s H C b Pc As)
    (hg : g.method = m) (hn : As.length = n) (hsize : g.locals.size = nL) (hstack : g.stack = As.reverse ++ .ref b :: rest) (hW : 2 * g.monitorRoom + (rest.map fun v => v.category).sum ≤ 8) (hdg : decode cc g.pc = .ok (.invokevirtual index, 3)) (hf : cells + mc ≤ R.cells ∧ slots + ms ≤ R.slots) :
    vx_Run p l e R s m args below meth c H locs cells slots mc ms g rest (Qc (Value.ref b :: As).toArray) XC free := by
  obtain ⟨⟨⟨hrc, hrs, hfr, hlo, hws, hcw⟩, hcode, hini, hy, hlen, hl⟩, hx1, hx2⟩ := cw
  have hK : vx_Back l R p e below s args y 3 8 (PreOf R mc ms Pc) (PostOf Qc mc ms free) (vx_Post XC mc ms free) := vx_back (bytes := bytes) (maxL := maxL) (ret := ret) hM hp.1 hrc hrs hfr hlo hws hcw (fun a' U hW => word_at hW (Or.inl (by first | rfl | simp [Cond.onTables, Cond.keeps, Cond.steady])) hini)
  obtain ⟨hx, hb, hml, ho, -⟩ := S
  obtain ⟨-, ⟨cellB, hcB, hoB, hclB⟩, hPc⟩ := hp
  intro T hT X
  rcases vx_callVN X hx (C := C) (bytes := bytes) (maxL := maxL) (ret := ret) ho hl hx1 hx2 hcode hy hK (by rw [hT]; exact hcB) hoB hclB hg (hsize.trans hml.symm) (argsL := As) (rest := rest) (fun sig h => hn.trans (hlen sig h)) hstack hW (by rw [hb]; exact hdg)
    (fun vm₁ hW₁ => ⟨hf.1, hf.2, hPc (T.setVm vm₁) hT hW₁⟩) with ⟨v, vm₁, ⟨U', l2, c2, s2⟩, hW₁, X', ⟨g', mk, t, L, e1, e2, hq, h1, hL, h2, h3⟩, st⟩ | ⟨q, vm₁, ⟨U', l2, c2, s2⟩, hW₁, X', ⟨g', mk, t, L, E, ce, e1, e2, hq, hce, hcv, hcl, h1, hL, h2, h3⟩, st⟩
  · dsimp only [Pt.U, Pt.locs, Pt.cells, Pt.slots] at X' e1 e2 h1 h2 h3 st
    subst h1; subst h2; subst h3
    exact Or.inl ⟨v, (T.setVm vm₁).calling g' mk (Value.ref b :: As).toArray, t, U', L, hT, X', hL, e1, e2, hq, st⟩
  · dsimp only [Pt.U, Pt.locs, Pt.cells, Pt.slots] at X' e1 e2 h1 h2 h3 st hcl
    subst h1; subst h2; subst h3
    exact Or.inr ⟨q, (T.setVm vm₁).calling g' mk (Value.ref b :: As).toArray, t, U', L, E, ce, hT, X', hL, e1, e2, hq, hce, hcv, vx_cls hW₁ hcl, st⟩
theorem vx_runSN {y : MethodName} {bytes cc : ByteArray} {maxL nL mc ms n index : Nat} {ret : Option FieldType} {ws : List Cond} {rm : Room} {Pc : Array Value → State → Prop} {Qc : Array Value → State → Outcome → State → Prop} {XC : String → State → State → Prop} {free : Addr → Prop} {Ts : List Cond} {own host : String} {As rest : List Value} {g : JFrame}
    (S : CallFix p m c cc nL s args Ts own) (hM : vx_Met l y ws rm Pc Qc XC mc ms free) (cw : va_CN R s args own index y host bytes maxL ret ws rm mc ms n ∧ (Cond.static y).before args s = true ∧ True) (hp : PreS s H Pc As)
    (hg : g.method = m) (hn : As.length = n) (hsize : g.locals.size = nL) (hstack : g.stack = As.reverse ++ rest) (hW : 2 * g.monitorRoom + (rest.map fun v => v.category).sum ≤ 8) (hdg : decode cc g.pc = .ok (.invokestatic index, 3)) (hf : cells + mc ≤ R.cells ∧ slots + ms ≤ R.slots) :
    vx_Run p l e R s m args below meth c H locs cells slots mc ms g rest (Qc As.toArray) XC free := by
  obtain ⟨⟨⟨hrc, hrs, hfr, hlo, hws, hcw⟩, hcode, hini, hy, hlen, hl⟩, hx1, hx2⟩ := cw
  have hK : vx_Back l R p e below s args y 3 8 (PreOf R mc ms Pc) (PostOf Qc mc ms free) (vx_Post XC mc ms free) := vx_back (bytes := bytes) (maxL := maxL) (ret := ret) hM hp.1 hrc hrs hfr hlo hws hcw (fun a' U hW => word_at hW (Or.inl (by first | rfl | simp [Cond.onTables, Cond.keeps, Cond.steady])) hini)
  obtain ⟨hx, hb, hml, ho, -⟩ := S
  have hPc := hp.2
  intro T hT X
  rcases vx_callSN X hx (bytes := bytes) (maxL := maxL) (ret := ret) ho hl hx1 hini hcode hy hK hg (hsize.trans hml.symm) (argsL := As) (rest := rest) (fun sig h => hn.trans (hlen sig h)) hstack hW (by rw [hb]; exact hdg)
    (fun vm₁ hW₁ => ⟨hf.1, hf.2, hPc (T.setVm vm₁) hT hW₁⟩) with ⟨v, vm₁, ⟨U', l2, c2, s2⟩, hW₁, X', ⟨g', mk, t, L, e1, e2, hq, h1, hL, h2, h3⟩, st⟩ | ⟨q, vm₁, ⟨U', l2, c2, s2⟩, hW₁, X', ⟨g', mk, t, L, E, ce, e1, e2, hq, hce, hcv, hcl, h1, hL, h2, h3⟩, st⟩
  · dsimp only [Pt.U, Pt.locs, Pt.cells, Pt.slots] at X' e1 e2 h1 h2 h3 st
    subst h1; subst h2; subst h3
    exact Or.inl ⟨v, (T.setVm vm₁).calling g' mk As.toArray, t, U', L, hT, X', hL, e1, e2, hq, st⟩
  · dsimp only [Pt.U, Pt.locs, Pt.cells, Pt.slots] at X' e1 e2 h1 h2 h3 st hcl
    subst h1; subst h2; subst h3
    exact Or.inr ⟨q, (T.setVm vm₁).calling g' mk As.toArray, t, U', L, E, ce, hT, X', hL, e1, e2, hq, hce, hcv, vx_cls hW₁ hcl, st⟩
end
/-! ===== END ===== -/
/-! ===== BEGIN calls by an interface of methods that may throw (vx_callIF, vx_runF follow va_callIF, va_runF of this kit) ===== -/
section
variable {p : Program} {l : Launch} {e : Env} {R : Room} {s : State} {m : MethodId} {args : Array Value} {below : List Frame} {meth : Method} {c : Code} {H : Heap} {locs : List Loc} {cells slots : Nat} {Q : State → Prop}
variable {mc ms : Nat} {free : Addr → Prop} {A0 A1 : Nat → Prop} {H0 : Heap} {a : Array Value} {pc : Nat} {ls : Array Slot} {st0 rest : List Value}
def vx_Run5 (p : Program) (l : Launch) (e : Env) (R : Room) (s : State) (m : MethodId) (args : Array Value) (below : List Frame) (meth : Method) (c : Code) (H : Heap) (locs : List Loc) (cells slots mc ms : Nat) (g : JFrame) (rest : List Value) (Qa : State → Outcome → State → Prop) (XC : String → State → State → Prop) (free : Addr → Prop) : Prop :=
  ∀ T : State, T.heap = H → Stand p l e R s m args below meth c T locs cells slots →
    (∃ (v : Option Value) (st₀ t T' : State) (L : List Loc), st₀.heap = H ∧ Stand p l e R s m args below meth c T' (locs ++ L) (cells + mc) (slots + ms) ∧ (∀ q ∈ L, free q.base) ∧ T'.heap = t.heap ∧ T'.vm = t.vm ∧ Qa st₀ (.returned v) t ∧
      Goes p e below T g T' { g with pc := g.pc + 5, stack := v.toList ++ rest }) ∨
    (∃ (q : Addr) (st₀ t T' : State) (L : List Loc) (E : String) (ce : Cell), st₀.heap = H ∧ Stand p l e R s m args below meth c T' (locs ++ L) (cells + mc) (slots + ms) ∧ (∀ z ∈ L, free z.base) ∧ T'.heap = t.heap ∧ T'.vm = t.vm ∧ XC E st₀ t ∧ t.heap[q]? = some ce ∧ ce.vm = .none ∧ s.vm.findClass E = some ce.cls ∧
      Steps p.tables e below (T.setTop g) ((T'.setTop { g with stack := rest }).pushFrame (.throwing q)))
theorem vx_callIF {T : State} (X : Stand p l e R s m args below meth c T locs cells slots) (hexec : p.tables.exec = Jvm.exec) {own C : String} {index count : Nat} {x y : MethodName} {bytes : ByteArray} {maxL : Nat} {ret : Option FieldType}
    (hown : s.vm.findClass own = some m.cls) (hlink : (Cond.methodLink own index x).before args s = true) (hdecl : (Cond.declares x).before args s = true) (hface : (Cond.interfaceMethod x.cls x.cls x.name x.desc).before args s = true)
    (hsel : (Cond.selects C x y).before args s = true) (hinst : (Cond.instanceMethod y).before args s = true) (hpub : (Cond.publicMethod y).before args s = true) (hunh : (Cond.unhidden C x.name x.desc).before args s = true)
    (hcast : (Cond.castable C x.cls).before args s = true) (hcode : (Cond.code y bytes maxL ret).before args s = true) (hx : x.cls ≠ "java/lang/invoke/MethodHandle" ∧ x.cls ≠ "java/lang/invoke/VarHandle")
    {W9 : Nat} {Pre : Pt → Array Value → Prop} {Post : Pt → Array Value → Option Value → Pt → Prop} {PostX : Pt → Array Value → Addr → Pt → Prop} (hK : vx_Back l R p e below s args y 5 W9 Pre Post PostX)
    {b : Addr} {cellB : Cell} {kB : Class} (hcell : T.heap[b]? = some cellB) (hobj : cellB.vm.isStatics = false) (hcls : s.vm.findClass C = some cellB.cls) (hkB : s.vm.classes[cellB.cls]? = some kB)
    {g : JFrame} (hg : g.method = m) (hsize : g.locals.size = c.maxLocals) {argsL rest : List Value} (hlen : ∀ sig, parseMethodDescriptor x.desc = some sig → argsL.length = sig.parameters.length)
    (hstack : g.stack = argsL.reverse ++ .ref b :: rest) (hW : 2 * g.monitorRoom + (rest.map fun v => v.category).sum ≤ W9) (hdg : decode c.code g.pc = .ok (.invokeinterface index count, 5))
    (hpre : ∀ vm₁, s.WarmedH vm₁ → Pre ⟨T.setVm vm₁, locs, cells, slots⟩ (Value.ref b :: argsL).toArray) :
    (∃ (v : Option Value) (vm₁ : Vm) (B : Pt), s.WarmedH vm₁ ∧ Stand p l e R s m args below meth c B.U B.locs B.cells B.slots ∧ Post ⟨T.setVm vm₁, locs, cells, slots⟩ (Value.ref b :: argsL).toArray v B ∧
      ∀ target, Steps p.tables e below (B.U.setTop { g with pc := g.pc + 5, stack := v.toList ++ rest }) target → Steps p.tables e below (T.setTop g) target) ∨
    (∃ (q : Addr) (vm₁ : Vm) (B : Pt), s.WarmedH vm₁ ∧ Stand p l e R s m args below meth c B.U B.locs B.cells B.slots ∧ PostX ⟨T.setVm vm₁, locs, cells, slots⟩ (Value.ref b :: argsL).toArray q B ∧
      Steps p.tables e below (T.setTop g) ((B.U.setTop { g with stack := rest }).pushFrame (.throwing q))) := by
  obtain ⟨r0, r, hn, hrm, hstR, hsigR⟩ := Cond.declares_spec hdecl
  obtain ⟨cL, kL, r1, hcL, hkL, hiL, hfoundL, hn1⟩ := Cond.interfaceMethod_spec hface
  cases hn.symm.trans hn1
  have hr0cls : r0.cls = cL := Option.some.inj ((findClass_of_methodNamed hn).symm.trans hcL)
  obtain ⟨hnameR, hdescR⟩ := name_of_methodNamed hn hrm
  obtain ⟨mk, methM, hnamed, hmethM, -, habM⟩ := Cond.instanceMethod_spec hinst
  obtain ⟨c2, r2, m2, q1, q2, q3, q4, -⟩ := Cond.selects_spec hsel
  cases hcls.symm.trans q1
  cases hfoundL.symm.trans q2
  cases hnamed.symm.trans q3
  have hselP : selectMethod e.platform s.vm cellB.cls r0 = .method mk := by rw [Launch.admits_selectMethod X.admits]; exact q4
  have hpubM : hasFlag methM.accessFlags Acc.public_ = true := Cond.publicMethod_spec hnamed hmethM hpub
  have hway : ((cellB.cls :: s.vm.superclasses cellB.cls).any fun k => (declaredIn s.vm r.name r.desc k).any fun (_, z) => z.isPrivate || z.isStatic) = false := by
    rw [hnameR, hdescR]; exact Cond.unhidden_spec hcls hunh
  obtain ⟨c3, t3, w1, w2, w3⟩ := Cond.castable_spec hcast
  cases hcls.symm.trans w1
  cases hcL.symm.trans w2
  obtain ⟨vm₁, X₁, hstep₁⟩ := X.invokeinterface hexec hown hlink hn hrm hstR (by rw [hr0cls]; exact hkL) hiL hx (a := b) (cell := cellB) (kcell := kB) hcell
    (fun z h => by rw [h] at hobj; cases hobj) hkB (by rw [hr0cls]; exact w3) hselP hmethM hway hpubM habM (g := g) hg (argsL := argsL) (rest := rest) (hlen _ hsigR) hstack hdg
  rcases hK m meth c ⟨T.setVm vm₁, locs, cells, slots⟩ { g with stack := rest } (.invokeinterface index count) mk (Value.ref b :: argsL).toArray X₁ hg hsize hdg hW (X₁.named hnamed) (hpre vm₁ X₁.warmed) with ⟨v, B, X', hpost, hsteps⟩ | ⟨q, B, X', hpost, hsteps⟩
  · exact Or.inl ⟨v, vm₁, B, X₁.warmed, X', hpost, fun target h => hstep₁ _ fun acts => by rw [doInvoke_state]; exact hsteps.trans h⟩
  · exact Or.inr ⟨q, vm₁, B, X₁.warmed, X', hpost, hstep₁ _ fun acts => by rw [doInvoke_state]; exact hsteps⟩
theorem vx_runF {x y : MethodName} {bytes cc : ByteArray} {maxL nL mc ms n index count : Nat} {ret : Option FieldType} {ws : List Cond} {rm : Room} {Pc : Array Value → State → Prop} {Qc : Array Value → State → Outcome → State → Prop} {XC : String → State → State → Prop} {free : Addr → Prop} {Ts : List Cond} {own C : String} {cC : ClassId} {b : Addr} {As rest : List Value} {g : JFrame}
    (hat : ClassAt s C cC) (S : CallFix p m c cc nL s args Ts own) (hM : vx_Met l y ws rm Pc Qc XC mc ms free) (cw : va_CI R s args own C index x y bytes maxL ret ws rm mc ms n) (hp : PreV s H C b Pc As)
    (hg : g.method = m) (hn : As.length = n) (hsize : g.locals.size = nL) (hstack : g.stack = As.reverse ++ .ref b :: rest) (hW : 2 * g.monitorRoom + (rest.map fun v => v.category).sum ≤ 8) (hdg : decode cc g.pc = .ok (.invokeinterface index count, 5)) (hf : cells + mc ≤ R.cells ∧ slots + ms ≤ R.slots) :
    vx_Run5 p l e R s m args below meth c H locs cells slots mc ms g rest (Qc (Value.ref b :: As).toArray) XC free := by
  obtain ⟨hrc, hrs, hfr, hlo, hws, hcw⟩ := cw.back
  have hini := cw.init
  have hK : vx_Back l R p e below s args y 5 8 (PreOf R mc ms Pc) (PostOf Qc mc ms free) (vx_Post XC mc ms free) := vx_back (bytes := bytes) (maxL := maxL) (ret := ret) hM hp.1 hrc hrs hfr hlo hws hcw (fun a' U hW => word_at hW (Or.inl (by first | rfl | simp [Cond.onTables, Cond.keeps, Cond.steady])) hini)
  obtain ⟨hx, hb, hml, ho, -⟩ := S
  obtain ⟨-, ⟨cellB, hcB, hoB, hclB⟩, hPc⟩ := hp
  obtain ⟨hfc, kB, hkB, -⟩ := hat
  cases hfc.symm.trans hclB
  intro T hT X
  rcases vx_callIF X hx (C := C) (bytes := bytes) (maxL := maxL) (ret := ret) ho cw.link cw.decl cw.face cw.sel cw.inst cw.pub cw.unh cw.cast cw.code cw.notMH hK (by rw [hT]; exact hcB) hoB hclB hkB hg (hsize.trans hml.symm) (argsL := As) (rest := rest) (fun sig h => hn.trans (cw.len sig h)) hstack hW (by rw [hb]; exact hdg)
    (fun vm₁ hW₁ => ⟨hf.1, hf.2, hPc (T.setVm vm₁) hT hW₁⟩) with ⟨v, vm₁, ⟨U', l2, c2, s2⟩, hW₁, X', ⟨g', mk, t, L, e1, e2, hq, h1, hL, h2, h3⟩, st⟩ | ⟨q, vm₁, ⟨U', l2, c2, s2⟩, hW₁, X', ⟨g', mk, t, L, E, ce, e1, e2, hq, hce, hcv, hcl, h1, hL, h2, h3⟩, st⟩
  · dsimp only [Pt.U, Pt.locs, Pt.cells, Pt.slots] at X' e1 e2 h1 h2 h3 st
    subst h1; subst h2; subst h3
    exact Or.inl ⟨v, (T.setVm vm₁).calling g' mk (Value.ref b :: As).toArray, t, U', L, hT, X', hL, e1, e2, hq, st⟩
  · dsimp only [Pt.U, Pt.locs, Pt.cells, Pt.slots] at X' e1 e2 h1 h2 h3 st hcl
    subst h1; subst h2; subst h3
    exact Or.inr ⟨q, (T.setVm vm₁).calling g' mk (Value.ref b :: As).toArray, t, U', L, E, ce, hT, X', hL, e1, e2, hq, hce, hcv, vx_cls hW₁ hcl, st⟩
theorem vx_callFv {S SX : Type} {post : S → Prop} {px : SX → Prop} {B : S → State → Prop} {BX : String → SX → State → Prop} {AX : Nat → Prop} (hr : vx_Run5 p l e R s m args below meth c H locs cells slots mc ms (F0 m pc ls st0) rest (va_Qv post B A1 a) (vx_X px BX AX) free) (hS : va_S A0 H0 H locs) (hA : ∀ q, q < H.size → A1 q → A0 q) (hf : ∀ q, free q → A0 q) (hAX : ∀ q, q < H.size → AX q → A0 q)
    (kx : ∀ (E : String) (ce : Cell) (q9 : Addr) (u : SX) (t : State) (H1 : Heap) (locs1 : List Loc), t.heap = H1 → s.vm.Alike t.vm → px u → BX E u t → H.size ≤ H1.size → (∀ q : Nat, q < H.size → ¬ AX q → H1[q]? = H[q]?) → va_S A0 H0 H1 locs1 → H1[q9]? = some ce → ce.vm = .none → s.vm.findClass E = some ce.cls → vx_W p l e R s m args below meth c H1 locs1 (cells + mc) (slots + ms) Q (F0 m pc ls rest) q9)
    (kk : ∀ (u : S) (t : State) (H1 : Heap) (locs1 : List Loc), t.heap = H1 → s.vm.Alike t.vm → post u → B u t → H.size ≤ H1.size → (∀ q : Nat, q < H.size → ¬ A1 q → H1[q]? = H[q]?) → va_S A0 H0 H1 locs1 → W p l e R s m args below meth c H1 locs1 (cells + mc) (slots + ms) Q (F0 m (pc + 5) ls (rest))) : W p l e R s m args below meth c H locs cells slots Q (F0 m pc ls st0) := by
  intro T hT X
  rcases hr T hT X with ⟨v, st₀, t, T', L, h0, X', hL, e1, e2, ⟨⟨u, hv, hp, hb⟩, hF⟩, st⟩ | ⟨q, st₀, t, T', L, E, ce, h0, X', hL, e1, e2, ⟨u, hp, hb, hF⟩, hce, hcv, hcl, st⟩
  · cases hv
    obtain ⟨k1, k2, k3⟩ := vx_keep h0 e1 hS hA hf hL hF
    obtain ⟨t2, a1, b1⟩ := kk u t T'.heap (locs ++ L) e1.symm (by rw [← e2]; exact X'.warmed.alike) hp hb k1 k2 k3 T' rfl X'
    exact ⟨t2, st t2 a1, b1⟩
  · obtain ⟨k1, k2, k3⟩ := vx_keep h0 e1 hS hAX hf hL hF
    obtain ⟨t2, a1, b1⟩ := kx E ce q u t T'.heap (locs ++ L) e1.symm (by rw [← e2]; exact X'.warmed.alike) hp hb k1 k2 k3 (by rw [e1]; exact hce) hcv hcl T' rfl X'
    exact ⟨t2, st.trans a1, b1⟩
theorem vx_callFi {S SX : Type} {post : Int32 → S → Prop} {px : SX → Prop} {B : S → State → Prop} {BX : String → SX → State → Prop} {AX : Nat → Prop} (hr : vx_Run5 p l e R s m args below meth c H locs cells slots mc ms (F0 m pc ls st0) rest (va_Qi post B A1 a) (vx_X px BX AX) free) (hS : va_S A0 H0 H locs) (hA : ∀ q, q < H.size → A1 q → A0 q) (hf : ∀ q, free q → A0 q) (hAX : ∀ q, q < H.size → AX q → A0 q)
    (kx : ∀ (E : String) (ce : Cell) (q9 : Addr) (u : SX) (t : State) (H1 : Heap) (locs1 : List Loc), t.heap = H1 → s.vm.Alike t.vm → px u → BX E u t → H.size ≤ H1.size → (∀ q : Nat, q < H.size → ¬ AX q → H1[q]? = H[q]?) → va_S A0 H0 H1 locs1 → H1[q9]? = some ce → ce.vm = .none → s.vm.findClass E = some ce.cls → vx_W p l e R s m args below meth c H1 locs1 (cells + mc) (slots + ms) Q (F0 m pc ls rest) q9)
    (kk : ∀ (r : Int32) (u : S) (t : State) (H1 : Heap) (locs1 : List Loc), t.heap = H1 → s.vm.Alike t.vm → post r u → B u t → H.size ≤ H1.size → (∀ q : Nat, q < H.size → ¬ A1 q → H1[q]? = H[q]?) → va_S A0 H0 H1 locs1 → W p l e R s m args below meth c H1 locs1 (cells + mc) (slots + ms) Q (F0 m (pc + 5) ls (.int r :: rest))) : W p l e R s m args below meth c H locs cells slots Q (F0 m pc ls st0) := by
  intro T hT X
  rcases hr T hT X with ⟨v, st₀, t, T', L, h0, X', hL, e1, e2, ⟨⟨r, u, hv, hp, hb⟩, hF⟩, st⟩ | ⟨q, st₀, t, T', L, E, ce, h0, X', hL, e1, e2, ⟨u, hp, hb, hF⟩, hce, hcv, hcl, st⟩
  · cases hv
    obtain ⟨k1, k2, k3⟩ := vx_keep h0 e1 hS hA hf hL hF
    obtain ⟨t2, a1, b1⟩ := kk r u t T'.heap (locs ++ L) e1.symm (by rw [← e2]; exact X'.warmed.alike) hp hb k1 k2 k3 T' rfl X'
    exact ⟨t2, st t2 a1, b1⟩
  · obtain ⟨k1, k2, k3⟩ := vx_keep h0 e1 hS hAX hf hL hF
    obtain ⟨t2, a1, b1⟩ := kx E ce q u t T'.heap (locs ++ L) e1.symm (by rw [← e2]; exact X'.warmed.alike) hp hb k1 k2 k3 (by rw [e1]; exact hce) hcv hcl T' rfl X'
    exact ⟨t2, st.trans a1, b1⟩
theorem vx_callFl {S SX : Type} {post : Int64 → S → Prop} {px : SX → Prop} {B : S → State → Prop} {BX : String → SX → State → Prop} {AX : Nat → Prop} (hr : vx_Run5 p l e R s m args below meth c H locs cells slots mc ms (F0 m pc ls st0) rest (va_Ql post B A1 a) (vx_X px BX AX) free) (hS : va_S A0 H0 H locs) (hA : ∀ q, q < H.size → A1 q → A0 q) (hf : ∀ q, free q → A0 q) (hAX : ∀ q, q < H.size → AX q → A0 q)
    (kx : ∀ (E : String) (ce : Cell) (q9 : Addr) (u : SX) (t : State) (H1 : Heap) (locs1 : List Loc), t.heap = H1 → s.vm.Alike t.vm → px u → BX E u t → H.size ≤ H1.size → (∀ q : Nat, q < H.size → ¬ AX q → H1[q]? = H[q]?) → va_S A0 H0 H1 locs1 → H1[q9]? = some ce → ce.vm = .none → s.vm.findClass E = some ce.cls → vx_W p l e R s m args below meth c H1 locs1 (cells + mc) (slots + ms) Q (F0 m pc ls rest) q9)
    (kk : ∀ (r : Int64) (u : S) (t : State) (H1 : Heap) (locs1 : List Loc), t.heap = H1 → s.vm.Alike t.vm → post r u → B u t → H.size ≤ H1.size → (∀ q : Nat, q < H.size → ¬ A1 q → H1[q]? = H[q]?) → va_S A0 H0 H1 locs1 → W p l e R s m args below meth c H1 locs1 (cells + mc) (slots + ms) Q (F0 m (pc + 5) ls (.long r :: rest))) : W p l e R s m args below meth c H locs cells slots Q (F0 m pc ls st0) := by
  intro T hT X
  rcases hr T hT X with ⟨v, st₀, t, T', L, h0, X', hL, e1, e2, ⟨⟨r, u, hv, hp, hb⟩, hF⟩, st⟩ | ⟨q, st₀, t, T', L, E, ce, h0, X', hL, e1, e2, ⟨u, hp, hb, hF⟩, hce, hcv, hcl, st⟩
  · cases hv
    obtain ⟨k1, k2, k3⟩ := vx_keep h0 e1 hS hA hf hL hF
    obtain ⟨t2, a1, b1⟩ := kk r u t T'.heap (locs ++ L) e1.symm (by rw [← e2]; exact X'.warmed.alike) hp hb k1 k2 k3 T' rfl X'
    exact ⟨t2, st t2 a1, b1⟩
  · obtain ⟨k1, k2, k3⟩ := vx_keep h0 e1 hS hAX hf hL hF
    obtain ⟨t2, a1, b1⟩ := kx E ce q u t T'.heap (locs ++ L) e1.symm (by rw [← e2]; exact X'.warmed.alike) hp hb k1 k2 k3 (by rw [e1]; exact hce) hcv hcl T' rfl X'
    exact ⟨t2, st.trans a1, b1⟩
theorem vx_callFf {S SX : Type} {post : UInt32 → S → Prop} {px : SX → Prop} {B : S → State → Prop} {BX : String → SX → State → Prop} {AX : Nat → Prop} (hr : vx_Run5 p l e R s m args below meth c H locs cells slots mc ms (F0 m pc ls st0) rest (va_Qf post B A1 a) (vx_X px BX AX) free) (hS : va_S A0 H0 H locs) (hA : ∀ q, q < H.size → A1 q → A0 q) (hf : ∀ q, free q → A0 q) (hAX : ∀ q, q < H.size → AX q → A0 q)
    (kx : ∀ (E : String) (ce : Cell) (q9 : Addr) (u : SX) (t : State) (H1 : Heap) (locs1 : List Loc), t.heap = H1 → s.vm.Alike t.vm → px u → BX E u t → H.size ≤ H1.size → (∀ q : Nat, q < H.size → ¬ AX q → H1[q]? = H[q]?) → va_S A0 H0 H1 locs1 → H1[q9]? = some ce → ce.vm = .none → s.vm.findClass E = some ce.cls → vx_W p l e R s m args below meth c H1 locs1 (cells + mc) (slots + ms) Q (F0 m pc ls rest) q9)
    (kk : ∀ (r : UInt32) (u : S) (t : State) (H1 : Heap) (locs1 : List Loc), t.heap = H1 → s.vm.Alike t.vm → post r u → B u t → H.size ≤ H1.size → (∀ q : Nat, q < H.size → ¬ A1 q → H1[q]? = H[q]?) → va_S A0 H0 H1 locs1 → W p l e R s m args below meth c H1 locs1 (cells + mc) (slots + ms) Q (F0 m (pc + 5) ls (.float r :: rest))) : W p l e R s m args below meth c H locs cells slots Q (F0 m pc ls st0) := by
  intro T hT X
  rcases hr T hT X with ⟨v, st₀, t, T', L, h0, X', hL, e1, e2, ⟨⟨r, u, hv, hp, hb⟩, hF⟩, st⟩ | ⟨q, st₀, t, T', L, E, ce, h0, X', hL, e1, e2, ⟨u, hp, hb, hF⟩, hce, hcv, hcl, st⟩
  · cases hv
    obtain ⟨k1, k2, k3⟩ := vx_keep h0 e1 hS hA hf hL hF
    obtain ⟨t2, a1, b1⟩ := kk r u t T'.heap (locs ++ L) e1.symm (by rw [← e2]; exact X'.warmed.alike) hp hb k1 k2 k3 T' rfl X'
    exact ⟨t2, st t2 a1, b1⟩
  · obtain ⟨k1, k2, k3⟩ := vx_keep h0 e1 hS hAX hf hL hF
    obtain ⟨t2, a1, b1⟩ := kx E ce q u t T'.heap (locs ++ L) e1.symm (by rw [← e2]; exact X'.warmed.alike) hp hb k1 k2 k3 (by rw [e1]; exact hce) hcv hcl T' rfl X'
    exact ⟨t2, st.trans a1, b1⟩
theorem vx_callFd {S SX : Type} {post : UInt64 → S → Prop} {px : SX → Prop} {B : S → State → Prop} {BX : String → SX → State → Prop} {AX : Nat → Prop} (hr : vx_Run5 p l e R s m args below meth c H locs cells slots mc ms (F0 m pc ls st0) rest (va_Qd post B A1 a) (vx_X px BX AX) free) (hS : va_S A0 H0 H locs) (hA : ∀ q, q < H.size → A1 q → A0 q) (hf : ∀ q, free q → A0 q) (hAX : ∀ q, q < H.size → AX q → A0 q)
    (kx : ∀ (E : String) (ce : Cell) (q9 : Addr) (u : SX) (t : State) (H1 : Heap) (locs1 : List Loc), t.heap = H1 → s.vm.Alike t.vm → px u → BX E u t → H.size ≤ H1.size → (∀ q : Nat, q < H.size → ¬ AX q → H1[q]? = H[q]?) → va_S A0 H0 H1 locs1 → H1[q9]? = some ce → ce.vm = .none → s.vm.findClass E = some ce.cls → vx_W p l e R s m args below meth c H1 locs1 (cells + mc) (slots + ms) Q (F0 m pc ls rest) q9)
    (kk : ∀ (r : UInt64) (u : S) (t : State) (H1 : Heap) (locs1 : List Loc), t.heap = H1 → s.vm.Alike t.vm → post r u → B u t → H.size ≤ H1.size → (∀ q : Nat, q < H.size → ¬ A1 q → H1[q]? = H[q]?) → va_S A0 H0 H1 locs1 → W p l e R s m args below meth c H1 locs1 (cells + mc) (slots + ms) Q (F0 m (pc + 5) ls (.double r :: rest))) : W p l e R s m args below meth c H locs cells slots Q (F0 m pc ls st0) := by
  intro T hT X
  rcases hr T hT X with ⟨v, st₀, t, T', L, h0, X', hL, e1, e2, ⟨⟨r, u, hv, hp, hb⟩, hF⟩, st⟩ | ⟨q, st₀, t, T', L, E, ce, h0, X', hL, e1, e2, ⟨u, hp, hb, hF⟩, hce, hcv, hcl, st⟩
  · cases hv
    obtain ⟨k1, k2, k3⟩ := vx_keep h0 e1 hS hA hf hL hF
    obtain ⟨t2, a1, b1⟩ := kk r u t T'.heap (locs ++ L) e1.symm (by rw [← e2]; exact X'.warmed.alike) hp hb k1 k2 k3 T' rfl X'
    exact ⟨t2, st t2 a1, b1⟩
  · obtain ⟨k1, k2, k3⟩ := vx_keep h0 e1 hS hAX hf hL hF
    obtain ⟨t2, a1, b1⟩ := kx E ce q u t T'.heap (locs ++ L) e1.symm (by rw [← e2]; exact X'.warmed.alike) hp hb k1 k2 k3 (by rw [e1]; exact hce) hcv hcl T' rfl X'
    exact ⟨t2, st.trans a1, b1⟩
end
/-! ===== END ===== -/
/-! ===== BEGIN by an interface, a method with a table of its own that may throw (follows va_callIFW, va_runFW) ===== -/
section
variable {p : Program} {l : Launch} {e : Env} {R : Room} {s : State} {m : MethodId} {args : Array Value} {below : List Frame} {meth : Method} {c : Code} {H : Heap} {locs : List Loc} {cells slots : Nat}
theorem vx_callIFW {T : State} (X : Stand p l e R s m args below meth c T locs cells slots) (hexec : p.tables.exec = Jvm.exec) {own C : String} {index count : Nat} {x y : MethodName} {bytes : ByteArray} {maxL : Nat} {ret : Option FieldType} {hh : List (Nat × Nat × Nat × Nat)}
    (hown : s.vm.findClass own = some m.cls) (hlink : (Cond.methodLink own index x).before args s = true) (hdecl : (Cond.declares x).before args s = true) (hface : (Cond.interfaceMethod x.cls x.cls x.name x.desc).before args s = true)
    (hsel : (Cond.selects C x y).before args s = true) (hinst : (Cond.instanceMethod y).before args s = true) (hpub : (Cond.publicMethod y).before args s = true) (hunh : (Cond.unhidden C x.name x.desc).before args s = true)
    (hcast : (Cond.castable C x.cls).before args s = true) (hcode : (Cond.codeWith y bytes maxL ret hh).before args s = true) (hx : x.cls ≠ "java/lang/invoke/MethodHandle" ∧ x.cls ≠ "java/lang/invoke/VarHandle")
    {W : Nat} {Pre : Pt → Array Value → Prop} {Post : Pt → Array Value → Option Value → Pt → Prop} {PostX : Pt → Array Value → Addr → Pt → Prop} (hK : vx_Back l R p e below s args y 5 W Pre Post PostX)
    {b : Addr} {cellB : Cell} {kB : Class} (hcell : T.heap[b]? = some cellB) (hobj : cellB.vm.isStatics = false) (hcls : s.vm.findClass C = some cellB.cls) (hkB : s.vm.classes[cellB.cls]? = some kB)
    {g : JFrame} (hg : g.method = m) (hsize : g.locals.size = c.maxLocals) {argsL rest : List Value} (hlen : ∀ sig, parseMethodDescriptor x.desc = some sig → argsL.length = sig.parameters.length)
    (hstack : g.stack = argsL.reverse ++ .ref b :: rest) (hW : 2 * g.monitorRoom + (rest.map fun v => v.category).sum ≤ W) (hdg : decode c.code g.pc = .ok (.invokeinterface index count, 5))
    (hpre : ∀ vm₁, s.WarmedH vm₁ → Pre ⟨T.setVm vm₁, locs, cells, slots⟩ (Value.ref b :: argsL).toArray) :
    (∃ (v : Option Value) (vm₁ : Vm) (B : Pt), s.WarmedH vm₁ ∧ Stand p l e R s m args below meth c B.U B.locs B.cells B.slots ∧ Post ⟨T.setVm vm₁, locs, cells, slots⟩ (Value.ref b :: argsL).toArray v B ∧
      ∀ target, Steps p.tables e below (B.U.setTop { g with pc := g.pc + 5, stack := v.toList ++ rest }) target → Steps p.tables e below (T.setTop g) target) ∨
    (∃ (q : Addr) (vm₁ : Vm) (B : Pt), s.WarmedH vm₁ ∧ Stand p l e R s m args below meth c B.U B.locs B.cells B.slots ∧ PostX ⟨T.setVm vm₁, locs, cells, slots⟩ (Value.ref b :: argsL).toArray q B ∧
      Steps p.tables e below (T.setTop g) ((B.U.setTop { g with stack := rest }).pushFrame (.throwing q))) := by
  obtain ⟨r0, r, hn, hrm, hstR, hsigR⟩ := Cond.declares_spec hdecl
  obtain ⟨cL, kL, r1, hcL, hkL, hiL, hfoundL, hn1⟩ := Cond.interfaceMethod_spec hface
  cases hn.symm.trans hn1
  have hr0cls : r0.cls = cL := Option.some.inj ((findClass_of_methodNamed hn).symm.trans hcL)
  obtain ⟨hnameR, hdescR⟩ := name_of_methodNamed hn hrm
  obtain ⟨mk, methM, hnamed, hmethM, -, habM⟩ := Cond.instanceMethod_spec hinst
  obtain ⟨c2, r2, m2, q1, q2, q3, q4, -⟩ := Cond.selects_spec hsel
  cases hcls.symm.trans q1
  cases hfoundL.symm.trans q2
  cases hnamed.symm.trans q3
  have hselP : selectMethod e.platform s.vm cellB.cls r0 = .method mk := by rw [Launch.admits_selectMethod X.admits]; exact q4
  have hpubM : hasFlag methM.accessFlags Acc.public_ = true := Cond.publicMethod_spec hnamed hmethM hpub
  have hway : ((cellB.cls :: s.vm.superclasses cellB.cls).any fun k => (declaredIn s.vm r.name r.desc k).any fun (_, z) => z.isPrivate || z.isStatic) = false := by
    rw [hnameR, hdescR]; exact Cond.unhidden_spec hcls hunh
  obtain ⟨c3, t3, w1, w2, w3⟩ := Cond.castable_spec hcast
  cases hcls.symm.trans w1
  cases hcL.symm.trans w2
  obtain ⟨vm₁, X₁, hstep₁⟩ := X.invokeinterface hexec hown hlink hn hrm hstR (by rw [hr0cls]; exact hkL) hiL hx (a := b) (cell := cellB) (kcell := kB) hcell
    (fun z h => by rw [h] at hobj; cases hobj) hkB (by rw [hr0cls]; exact w3) hselP hmethM hway hpubM habM (g := g) hg (argsL := argsL) (rest := rest) (hlen _ hsigR) hstack hdg
  rcases hK m meth c ⟨T.setVm vm₁, locs, cells, slots⟩ { g with stack := rest } (.invokeinterface index count) mk (Value.ref b :: argsL).toArray X₁ hg hsize hdg hW (X₁.named hnamed) (hpre vm₁ X₁.warmed) with ⟨v, B, X', hpost, hsteps⟩ | ⟨q, B, X', hpost, hsteps⟩
  · exact Or.inl ⟨v, vm₁, B, X₁.warmed, X', hpost, fun target h => hstep₁ _ fun acts => by rw [doInvoke_state]; exact hsteps.trans h⟩
  · exact Or.inr ⟨q, vm₁, B, X₁.warmed, X', hpost, hstep₁ _ fun acts => by rw [doInvoke_state]; exact hsteps⟩
theorem vx_runFW {x y : MethodName} {bytes cc : ByteArray} {maxL nL mc ms n index count : Nat} {ret : Option FieldType} {hh : List (Nat × Nat × Nat × Nat)} {ws : List Cond} {rm : Room} {Pc : Array Value → State → Prop} {Qc : Array Value → State → Outcome → State → Prop} {XC : String → State → State → Prop} {free : Addr → Prop} {Ts : List Cond} {own C : String} {cC : ClassId} {b : Addr} {As rest : List Value} {g : JFrame}
    (hat : ClassAt s C cC) (S : CallFix p m c cc nL s args Ts own) (hM : vx_Met l y ws rm Pc Qc XC mc ms free) (cw : va_CIW R s args own C index x y bytes maxL ret hh ws rm mc ms n) (hp : PreV s H C b Pc As)
    (hg : g.method = m) (hn : As.length = n) (hsize : g.locals.size = nL) (hstack : g.stack = As.reverse ++ .ref b :: rest) (hW : 2 * g.monitorRoom + (rest.map fun v => v.category).sum ≤ 8) (hdg : decode cc g.pc = .ok (.invokeinterface index count, 5)) (hf : cells + mc ≤ R.cells ∧ slots + ms ≤ R.slots) :
    vx_Run5 p l e R s m args below meth c H locs cells slots mc ms g rest (Qc (Value.ref b :: As).toArray) XC free := by
  obtain ⟨hrc, hrs, hfr, hlo, hws, hcw⟩ := cw.back
  have hini := cw.init
  have hK : vx_Back l R p e below s args y 5 8 (PreOf R mc ms Pc) (PostOf Qc mc ms free) (vx_Post XC mc ms free) := vx_backW (hh := hh) (bytes := bytes) (maxL := maxL) (ret := ret) hM hp.1 hrc hrs hfr hlo hws hcw (fun a' U hW => word_at hW (Or.inl (by first | rfl | simp [Cond.onTables, Cond.keeps, Cond.steady])) hini)
  obtain ⟨hx, hb, hml, ho, -⟩ := S
  obtain ⟨-, ⟨cellB, hcB, hoB, hclB⟩, hPc⟩ := hp
  obtain ⟨hfc, kB, hkB, -⟩ := hat
  cases hfc.symm.trans hclB
  intro T hT X
  rcases vx_callIFW X hx (C := C) (hh := hh) (bytes := bytes) (maxL := maxL) (ret := ret) ho cw.link cw.decl cw.face cw.sel cw.inst cw.pub cw.unh cw.cast cw.code cw.notMH hK (by rw [hT]; exact hcB) hoB hclB hkB hg (hsize.trans hml.symm) (argsL := As) (rest := rest) (fun sig h => hn.trans (cw.len sig h)) hstack hW (by rw [hb]; exact hdg)
    (fun vm₁ hW₁ => ⟨hf.1, hf.2, hPc (T.setVm vm₁) hT hW₁⟩) with ⟨v, vm₁, ⟨U', l2, c2, s2⟩, hW₁, X', ⟨g', mk, t, L, e1, e2, hq, h1, hL, h2, h3⟩, st⟩ | ⟨q, vm₁, ⟨U', l2, c2, s2⟩, hW₁, X', ⟨g', mk, t, L, E, ce, e1, e2, hq, hce, hcv, hcl, h1, hL, h2, h3⟩, st⟩
  · dsimp only [Pt.U, Pt.locs, Pt.cells, Pt.slots] at X' e1 e2 h1 h2 h3 st
    subst h1; subst h2; subst h3
    exact Or.inl ⟨v, (T.setVm vm₁).calling g' mk (Value.ref b :: As).toArray, t, U', L, hT, X', hL, e1, e2, hq, st⟩
  · dsimp only [Pt.U, Pt.locs, Pt.cells, Pt.slots] at X' e1 e2 h1 h2 h3 st hcl
    subst h1; subst h2; subst h3
    exact Or.inr ⟨q, (T.setVm vm₁).calling g' mk (Value.ref b :: As).toArray, t, U', L, E, ce, hT, X', hL, e1, e2, hq, hce, hcv, vx_cls hW₁ hcl, st⟩
end
/-! ===== END ===== -/
/-! ===== BEGIN .. of methods that hand back an object of the pool ===== -/
section
variable {p : Program} {l : Launch} {e : Env} {R : Room} {s : State} {m : MethodId} {args : Array Value} {below : List Frame} {meth : Method} {c : Code} {H : Heap} {locs : List Loc} {cells slots : Nat} {Q : State → Prop}
variable {mc ms : Nat} {free : Addr → Prop} {A0 A1 : Nat → Prop} {H0 : Heap} {a : Array Value} {pc : Nat} {ls : Array Slot} {st0 rest : List Value}
theorem vx_callq {S SX : Type} {post : Option Nat → S → Prop} {px : SX → Prop} {B : S → State → Prop} {BX : String → SX → State → Prop} {AX : Nat → Prop} (hr : vx_Run p l e R s m args below meth c H locs cells slots mc ms (F0 m pc ls st0) rest (va_Qq post B A1 a) (vx_X px BX AX) free) (hS : va_S A0 H0 H locs) (hA : ∀ q, q < H.size → A1 q → A0 q) (hf : ∀ q, free q → A0 q) (hAX : ∀ q, q < H.size → AX q → A0 q)
    (kx : ∀ (E : String) (ce : Cell) (q9 : Addr) (u : SX) (t : State) (H1 : Heap) (locs1 : List Loc), t.heap = H1 → s.vm.Alike t.vm → px u → BX E u t → H.size ≤ H1.size → (∀ q : Nat, q < H.size → ¬ AX q → H1[q]? = H[q]?) → va_S A0 H0 H1 locs1 → H1[q9]? = some ce → ce.vm = .none → s.vm.findClass E = some ce.cls → vx_W p l e R s m args below meth c H1 locs1 (cells + mc) (slots + ms) Q (F0 m pc ls rest) q9)
    (kk : ∀ (r : Option Nat) (u : S) (t : State) (H1 : Heap) (locs1 : List Loc), t.heap = H1 → s.vm.Alike t.vm → post r u → B u t → H.size ≤ H1.size → (∀ q : Nat, q < H.size → ¬ A1 q → H1[q]? = H[q]?) → va_S A0 H0 H1 locs1 → W p l e R s m args below meth c H1 locs1 (cells + mc) (slots + ms) Q (F0 m (pc + 3) ls (va_rf r :: rest))) : W p l e R s m args below meth c H locs cells slots Q (F0 m pc ls st0) := by
  intro T hT X
  rcases hr T hT X with ⟨v, st₀, t, T', L, h0, X', hL, e1, e2, ⟨⟨r, u, hv, hp, hb⟩, hF⟩, st⟩ | ⟨q, st₀, t, T', L, E, ce, h0, X', hL, e1, e2, ⟨u, hp, hb, hF⟩, hce, hcv, hcl, st⟩
  · cases hv
    obtain ⟨k1, k2, k3⟩ := vx_keep h0 e1 hS hA hf hL hF
    obtain ⟨t2, a1, b1⟩ := kk r u t T'.heap (locs ++ L) e1.symm (by rw [← e2]; exact X'.warmed.alike) hp hb k1 k2 k3 T' rfl X'
    exact ⟨t2, st t2 a1, b1⟩
  · obtain ⟨k1, k2, k3⟩ := vx_keep h0 e1 hS hAX hf hL hF
    obtain ⟨t2, a1, b1⟩ := kx E ce q u t T'.heap (locs ++ L) e1.symm (by rw [← e2]; exact X'.warmed.alike) hp hb k1 k2 k3 (by rw [e1]; exact hce) hcv hcl T' rfl X'
    exact ⟨t2, st.trans a1, b1⟩
end
/-! ===== END ===== -/
/-! ===== BEGIN .. a constant ===== -/
section
variable {p : Program} {l : Launch} {e : Env} {R : Room} {s : State} {m : MethodId} {args : Array Value} {below : List Frame} {meth : Method} {c : Code} {H : Heap} {locs : List Loc} {cells slots : Nat} {Q : State → Prop}
variable {mc ms : Nat} {free : Addr → Prop} {A0 A1 : Nat → Prop} {H0 : Heap} {a : Array Value} {pc : Nat} {ls : Array Slot} {st0 rest : List Value}
theorem vx_calle {ad : Nat → Nat} {S SX : Type} {post : Option Nat → S → Prop} {px : SX → Prop} {B : S → State → Prop} {BX : String → SX → State → Prop} {AX : Nat → Prop} (hr : vx_Run p l e R s m args below meth c H locs cells slots mc ms (F0 m pc ls st0) rest (va_Qe ad post B A1 a) (vx_X px BX AX) free) (hS : va_S A0 H0 H locs) (hA : ∀ q, q < H.size → A1 q → A0 q) (hf : ∀ q, free q → A0 q) (hAX : ∀ q, q < H.size → AX q → A0 q)
    (kx : ∀ (E : String) (ce : Cell) (q9 : Addr) (u : SX) (t : State) (H1 : Heap) (locs1 : List Loc), t.heap = H1 → s.vm.Alike t.vm → px u → BX E u t → H.size ≤ H1.size → (∀ q : Nat, q < H.size → ¬ AX q → H1[q]? = H[q]?) → va_S A0 H0 H1 locs1 → H1[q9]? = some ce → ce.vm = .none → s.vm.findClass E = some ce.cls → vx_W p l e R s m args below meth c H1 locs1 (cells + mc) (slots + ms) Q (F0 m pc ls rest) q9)
    (kk : ∀ (r : Option Nat) (u : S) (t : State) (H1 : Heap) (locs1 : List Loc), t.heap = H1 → s.vm.Alike t.vm → post r u → B u t → H.size ≤ H1.size → (∀ q : Nat, q < H.size → ¬ A1 q → H1[q]? = H[q]?) → va_S A0 H0 H1 locs1 → W p l e R s m args below meth c H1 locs1 (cells + mc) (slots + ms) Q (F0 m (pc + 3) ls (va_re ad r :: rest))) : W p l e R s m args below meth c H locs cells slots Q (F0 m pc ls st0) := by
  intro T hT X
  rcases hr T hT X with ⟨v, st₀, t, T', L, h0, X', hL, e1, e2, ⟨⟨r, u, hv, hp, hb⟩, hF⟩, st⟩ | ⟨q, st₀, t, T', L, E, ce, h0, X', hL, e1, e2, ⟨u, hp, hb, hF⟩, hce, hcv, hcl, st⟩
  · cases hv
    obtain ⟨k1, k2, k3⟩ := vx_keep h0 e1 hS hA hf hL hF
    obtain ⟨t2, a1, b1⟩ := kk r u t T'.heap (locs ++ L) e1.symm (by rw [← e2]; exact X'.warmed.alike) hp hb k1 k2 k3 T' rfl X'
    exact ⟨t2, st t2 a1, b1⟩
  · obtain ⟨k1, k2, k3⟩ := vx_keep h0 e1 hS hAX hf hL hF
    obtain ⟨t2, a1, b1⟩ := kx E ce q u t T'.heap (locs ++ L) e1.symm (by rw [← e2]; exact X'.warmed.alike) hp hb k1 k2 k3 (by rw [e1]; exact hce) hcv hcl T' rfl X'
    exact ⟨t2, st.trans a1, b1⟩
end
/-! ===== END ===== -/
/-! ===== BEGIN .. by an interface, an object ===== -/
section
variable {p : Program} {l : Launch} {e : Env} {R : Room} {s : State} {m : MethodId} {args : Array Value} {below : List Frame} {meth : Method} {c : Code} {H : Heap} {locs : List Loc} {cells slots : Nat} {Q : State → Prop}
variable {mc ms : Nat} {free : Addr → Prop} {A0 A1 : Nat → Prop} {H0 : Heap} {a : Array Value} {pc : Nat} {ls : Array Slot} {st0 rest : List Value}
theorem vx_callFq {S SX : Type} {post : Option Nat → S → Prop} {px : SX → Prop} {B : S → State → Prop} {BX : String → SX → State → Prop} {AX : Nat → Prop} (hr : vx_Run5 p l e R s m args below meth c H locs cells slots mc ms (F0 m pc ls st0) rest (va_Qq post B A1 a) (vx_X px BX AX) free) (hS : va_S A0 H0 H locs) (hA : ∀ q, q < H.size → A1 q → A0 q) (hf : ∀ q, free q → A0 q) (hAX : ∀ q, q < H.size → AX q → A0 q)
    (kx : ∀ (E : String) (ce : Cell) (q9 : Addr) (u : SX) (t : State) (H1 : Heap) (locs1 : List Loc), t.heap = H1 → s.vm.Alike t.vm → px u → BX E u t → H.size ≤ H1.size → (∀ q : Nat, q < H.size → ¬ AX q → H1[q]? = H[q]?) → va_S A0 H0 H1 locs1 → H1[q9]? = some ce → ce.vm = .none → s.vm.findClass E = some ce.cls → vx_W p l e R s m args below meth c H1 locs1 (cells + mc) (slots + ms) Q (F0 m pc ls rest) q9)
    (kk : ∀ (r : Option Nat) (u : S) (t : State) (H1 : Heap) (locs1 : List Loc), t.heap = H1 → s.vm.Alike t.vm → post r u → B u t → H.size ≤ H1.size → (∀ q : Nat, q < H.size → ¬ A1 q → H1[q]? = H[q]?) → va_S A0 H0 H1 locs1 → W p l e R s m args below meth c H1 locs1 (cells + mc) (slots + ms) Q (F0 m (pc + 5) ls (va_rf r :: rest))) : W p l e R s m args below meth c H locs cells slots Q (F0 m pc ls st0) := by
  intro T hT X
  rcases hr T hT X with ⟨v, st₀, t, T', L, h0, X', hL, e1, e2, ⟨⟨r, u, hv, hp, hb⟩, hF⟩, st⟩ | ⟨q, st₀, t, T', L, E, ce, h0, X', hL, e1, e2, ⟨u, hp, hb, hF⟩, hce, hcv, hcl, st⟩
  · cases hv
    obtain ⟨k1, k2, k3⟩ := vx_keep h0 e1 hS hA hf hL hF
    obtain ⟨t2, a1, b1⟩ := kk r u t T'.heap (locs ++ L) e1.symm (by rw [← e2]; exact X'.warmed.alike) hp hb k1 k2 k3 T' rfl X'
    exact ⟨t2, st t2 a1, b1⟩
  · obtain ⟨k1, k2, k3⟩ := vx_keep h0 e1 hS hAX hf hL hF
    obtain ⟨t2, a1, b1⟩ := kx E ce q u t T'.heap (locs ++ L) e1.symm (by rw [← e2]; exact X'.warmed.alike) hp hb k1 k2 k3 (by rw [e1]; exact hce) hcv hcl T' rfl X'
    exact ⟨t2, st.trans a1, b1⟩
end
/-! ===== END ===== -/
/-! ===== BEGIN .. by an interface, a constant ===== -/
section
variable {p : Program} {l : Launch} {e : Env} {R : Room} {s : State} {m : MethodId} {args : Array Value} {below : List Frame} {meth : Method} {c : Code} {H : Heap} {locs : List Loc} {cells slots : Nat} {Q : State → Prop}
variable {mc ms : Nat} {free : Addr → Prop} {A0 A1 : Nat → Prop} {H0 : Heap} {a : Array Value} {pc : Nat} {ls : Array Slot} {st0 rest : List Value}
theorem vx_callFe {ad : Nat → Nat} {S SX : Type} {post : Option Nat → S → Prop} {px : SX → Prop} {B : S → State → Prop} {BX : String → SX → State → Prop} {AX : Nat → Prop} (hr : vx_Run5 p l e R s m args below meth c H locs cells slots mc ms (F0 m pc ls st0) rest (va_Qe ad post B A1 a) (vx_X px BX AX) free) (hS : va_S A0 H0 H locs) (hA : ∀ q, q < H.size → A1 q → A0 q) (hf : ∀ q, free q → A0 q) (hAX : ∀ q, q < H.size → AX q → A0 q)
    (kx : ∀ (E : String) (ce : Cell) (q9 : Addr) (u : SX) (t : State) (H1 : Heap) (locs1 : List Loc), t.heap = H1 → s.vm.Alike t.vm → px u → BX E u t → H.size ≤ H1.size → (∀ q : Nat, q < H.size → ¬ AX q → H1[q]? = H[q]?) → va_S A0 H0 H1 locs1 → H1[q9]? = some ce → ce.vm = .none → s.vm.findClass E = some ce.cls → vx_W p l e R s m args below meth c H1 locs1 (cells + mc) (slots + ms) Q (F0 m pc ls rest) q9)
    (kk : ∀ (r : Option Nat) (u : S) (t : State) (H1 : Heap) (locs1 : List Loc), t.heap = H1 → s.vm.Alike t.vm → post r u → B u t → H.size ≤ H1.size → (∀ q : Nat, q < H.size → ¬ A1 q → H1[q]? = H[q]?) → va_S A0 H0 H1 locs1 → W p l e R s m args below meth c H1 locs1 (cells + mc) (slots + ms) Q (F0 m (pc + 5) ls (va_re ad r :: rest))) : W p l e R s m args below meth c H locs cells slots Q (F0 m pc ls st0) := by
  intro T hT X
  rcases hr T hT X with ⟨v, st₀, t, T', L, h0, X', hL, e1, e2, ⟨⟨r, u, hv, hp, hb⟩, hF⟩, st⟩ | ⟨q, st₀, t, T', L, E, ce, h0, X', hL, e1, e2, ⟨u, hp, hb, hF⟩, hce, hcv, hcl, st⟩
  · cases hv
    obtain ⟨k1, k2, k3⟩ := vx_keep h0 e1 hS hA hf hL hF
    obtain ⟨t2, a1, b1⟩ := kk r u t T'.heap (locs ++ L) e1.symm (by rw [← e2]; exact X'.warmed.alike) hp hb k1 k2 k3 T' rfl X'
    exact ⟨t2, st t2 a1, b1⟩
  · obtain ⟨k1, k2, k3⟩ := vx_keep h0 e1 hS hAX hf hL hF
    obtain ⟨t2, a1, b1⟩ := kx E ce q u t T'.heap (locs ++ L) e1.symm (by rw [← e2]; exact X'.warmed.alike) hp hb k1 k2 k3 (by rw [e1]; exact hce) hcv hcl T' rfl X'
    exact ⟨t2, st.trans a1, b1⟩
end
/-! ===== END ===== -/
/-! ===== BEGIN what the machine throws by itself: null at a field, at athrow ===== -/
section VXM2
variable {p : Program} {l : Launch} {e : Env} {R : Room} {s : State} {m : MethodId} {args : Array Value} {below : List Frame} {meth : Method} {c : Code} {H : Heap} {locs : List Loc} {cells slots : Nat}
variable {Q : State → Prop} {cc : ByteArray} {pc : Nat} {ls : Array Slot} {rest : List Value}
theorem vx_getfN {D cl tys} {own ref C : String} {T : u_T} {N ci index : Nat} {Ts : List Cond} (hexec : p.tables.exec = Jvm.exec) (hb : c.code = cc) (hts : ∀ w ∈ Ts, w.before args s = true) (hin : ∀ w ∈ u_ws C T N, w ∈ Ts) (hown : s.vm.findClass own = some m.cls) (hK : va_K D cl tys s) (hc : cl[ci]? = some (C, T, N)) (k : Nat) (hk : k < N) (hlink : (Cond.fieldLink own index ref (T k).2.1 (T k).2.2.1).before args s = true) (hsame : ∀ x, s.fieldFound? (T k).1 (T k).2.1 (T k).2.2.1 = some x → s.fieldFound? ref (T k).2.1 (T k).2.2.1 = some x) (hdg : decode cc pc = .ok (.getfield index, 3)) (kk : vx_NoteN p l e R s m args below meth c H locs cells slots Q (F0 m pc ls rest)) : W p l e R s m args below meth c H locs cells slots Q (F0 m pc ls (.null :: rest)) := by
  obtain ⟨hS, hfc, kC, hkC, -⟩ := hK.1 ci _ hc
  obtain ⟨cf, kf, fi, f, hi, -⟩ := hS k hk
  intro U hU X
  obtain ⟨vm', X1, st1⟩ := X.getfieldNull hexec hown hlink (hsame _ hi) (u_facts hfc hkC (u_lays hts hin hk) hi).1 (g := F0 m pc ls (.null :: rest)) rfl (rest := rest) rfl (by rw [hb]; exact hdg)
  obtain ⟨t, st, q⟩ := kk (U.setVm vm') hU X1
  exact ⟨t, st1 t st, q⟩
theorem vx_getfNN {D cl tys} {own ref C host : String} {T : u_T} {N ci index : Nat} {Ts : List Cond} (hexec : p.tables.exec = Jvm.exec) (hb : c.code = cc) (hts : ∀ w ∈ Ts, w.before args s = true) (hin : ∀ w ∈ u_ws C T N, w ∈ Ts) (hown : s.vm.findClass own = some m.cls) (hK : va_K D cl tys s) (hc : cl[ci]? = some (C, T, N)) (k : Nat) (hk : k < N) (hlink : (Cond.fieldLinkNest own index ref (T k).2.1 (T k).2.2.1 host).before args s = true) (hsame : ∀ x, s.fieldFound? (T k).1 (T k).2.1 (T k).2.2.1 = some x → s.fieldFound? ref (T k).2.1 (T k).2.2.1 = some x) (hdg : decode cc pc = .ok (.getfield index, 3)) (kk : vx_NoteN p l e R s m args below meth c H locs cells slots Q (F0 m pc ls rest)) : W p l e R s m args below meth c H locs cells slots Q (F0 m pc ls (.null :: rest)) := by
  obtain ⟨hS, hfc, kC, hkC, -⟩ := hK.1 ci _ hc
  obtain ⟨cf, kf, fi, f, hi, -⟩ := hS k hk
  intro U hU X
  obtain ⟨vm', X1, st1⟩ := X.getfieldNullNest hexec hown hlink (hsame _ hi) (u_facts hfc hkC (u_lays hts hin hk) hi).1 (g := F0 m pc ls (.null :: rest)) rfl (rest := rest) rfl (by rw [hb]; exact hdg)
  obtain ⟨t, st, q⟩ := kk (U.setVm vm') hU X1
  exact ⟨t, st1 t st, q⟩
theorem vx_putfN {D cl tys} {own ref C : String} {T : u_T} {N ci index : Nat} {Ts : List Cond} (hexec : p.tables.exec = Jvm.exec) (hb : c.code = cc) (hts : ∀ w ∈ Ts, w.before args s = true) (hin : ∀ w ∈ u_ws C T N, w ∈ Ts) (hown : s.vm.findClass own = some m.cls) (hK : va_K D cl tys s) (hc : cl[ci]? = some (C, T, N)) (k : Nat) (hk : k < N) (hlink : (Cond.fieldLink own index ref (T k).2.1 (T k).2.2.1).before args s = true) (hsame : ∀ x, s.fieldFound? (T k).1 (T k).2.1 (T k).2.2.1 = some x → s.fieldFound? ref (T k).2.1 (T k).2.2.1 = some x) (hfin : (T k).2.2.2 = false) {v : Value} (hdg : decode cc pc = .ok (.putfield index, 3)) (kk : vx_NoteN p l e R s m args below meth c H locs cells slots Q (F0 m pc ls rest)) : W p l e R s m args below meth c H locs cells slots Q (F0 m pc ls (v :: .null :: rest)) := by
  obtain ⟨hS, hfc, kC, hkC, -⟩ := hK.1 ci _ hc
  obtain ⟨cf, kf, fi, f, hi, -⟩ := hS k hk
  have hlay := hts _ (hin _ (u_in_lay hk))
  unfold u_lay at hlay
  rw [if_neg (by rw [hfin]; decide)] at hlay
  obtain ⟨c9, k9, cf9, kf9, fi9, f9, -, -, hi9, hst9, hnf9, -⟩ := Cond.lays_spec hlay
  cases hi.symm.trans hi9
  intro U hU X
  obtain ⟨vm', X1, st1⟩ := X.putfieldNull hexec hown hlink (hsame _ hi) hst9 hnf9 (g := F0 m pc ls (v :: .null :: rest)) rfl (v := v) (rest := rest) rfl (by rw [hb]; exact hdg)
  obtain ⟨t, st, q⟩ := kk (U.setVm vm') hU X1
  exact ⟨t, st1 t st, q⟩
theorem vx_putfNN {D cl tys} {own ref C host : String} {T : u_T} {N ci index : Nat} {Ts : List Cond} (hexec : p.tables.exec = Jvm.exec) (hb : c.code = cc) (hts : ∀ w ∈ Ts, w.before args s = true) (hin : ∀ w ∈ u_ws C T N, w ∈ Ts) (hown : s.vm.findClass own = some m.cls) (hK : va_K D cl tys s) (hc : cl[ci]? = some (C, T, N)) (k : Nat) (hk : k < N) (hlink : (Cond.fieldLinkNest own index ref (T k).2.1 (T k).2.2.1 host).before args s = true) (hsame : ∀ x, s.fieldFound? (T k).1 (T k).2.1 (T k).2.2.1 = some x → s.fieldFound? ref (T k).2.1 (T k).2.2.1 = some x) (hfin : (T k).2.2.2 = false) {v : Value} (hdg : decode cc pc = .ok (.putfield index, 3)) (kk : vx_NoteN p l e R s m args below meth c H locs cells slots Q (F0 m pc ls rest)) : W p l e R s m args below meth c H locs cells slots Q (F0 m pc ls (v :: .null :: rest)) := by
  obtain ⟨hS, hfc, kC, hkC, -⟩ := hK.1 ci _ hc
  obtain ⟨cf, kf, fi, f, hi, -⟩ := hS k hk
  have hlay := hts _ (hin _ (u_in_lay hk))
  unfold u_lay at hlay
  rw [if_neg (by rw [hfin]; decide)] at hlay
  obtain ⟨c9, k9, cf9, kf9, fi9, f9, -, -, hi9, hst9, hnf9, -⟩ := Cond.lays_spec hlay
  cases hi.symm.trans hi9
  intro U hU X
  obtain ⟨vm', X1, st1⟩ := X.putfieldNullNest hexec hown hlink (hsame _ hi) hst9 hnf9 (g := F0 m pc ls (v :: .null :: rest)) rfl (v := v) (rest := rest) rfl (by rw [hb]; exact hdg)
  obtain ⟨t, st, q⟩ := kk (U.setVm vm') hU X1
  exact ⟨t, st1 t st, q⟩
theorem vx_athrowN (hexec : p.tables.exec = Jvm.exec) (hb : c.code = cc) (hdg : decode cc pc = .ok (.athrow, 1)) (k : vx_NoteN p l e R s m args below meth c H locs cells slots Q (F0 m pc ls rest)) : W p l e R s m args below meth c H locs cells slots Q (F0 m pc ls (.null :: rest)) := by
  intro T hT X
  obtain ⟨t, st, q⟩ := k T hT X
  exact ⟨t, X.athrowNull hexec (g := F0 m pc ls (.null :: rest)) rfl (rest := rest) rfl (by rw [hb]; exact hdg) t st, q⟩
end VXM2
/-! ===== END ===== -/
end
section
/-! ===== BEGIN printed: names, fields, word lists, decode rows ===== -/
def RX0 : String := "FormWright$Answer"
def TX0 : u_T := fun k => match k with
  | 0 => ("FormWright$Answer", "number", "I", true)
  | 1 => ("FormWright$Answer", "version", "LFormWright$Form;", true)
  | 2 => ("FormWright$Answer", "values", "LFormWright$Values;", true)
  | 3 => ("FormWright$Answer", "state", "I", false)
  | _ => ("FormWright$Answer", "doubted", "I", false)
def tyX0 : Nat → FieldType := fun k => match k with
  | 0 => .int
  | 1 => .object "FormWright$Form"
  | 2 => .object "FormWright$Values"
  | 3 => .int
  | _ => .int
abbrev wsX00 : List Cond := u_ws RX0 TX0 5
theorem nmX0 : ∀ a, a < 5 → ∀ b, b < 5 → a ≠ b → (TX0 a).2.1 ≠ (TX0 b).2.1 := by decide +kernel
theorem tyX0_ok : ∀ k, k < 5 → parseFieldDescriptor (TX0 k).2.2.1 = some (tyX0 k) := by decide +kernel
abbrev cX0_init : ByteArray := prog_2_method_1_code
def yX0_init : MethodName := ⟨RX0, "<init>", "(ILFormWright$Form;)V"⟩
abbrev cX0_versionNumber : ByteArray := prog_2_method_2_code
def yX0_versionNumber : MethodName := ⟨RX0, "versionNumber", "()I"⟩
abbrev cX0_stateNow : ByteArray := prog_2_method_3_code
def yX0_stateNow : MethodName := ⟨RX0, "stateNow", "()I"⟩
abbrev cX0_doubtedFields : ByteArray := prog_2_method_4_code
def yX0_doubtedFields : MethodName := ⟨RX0, "doubtedFields", "()I"⟩
abbrev cX0_isDoubted : ByteArray := prog_2_method_5_code
def yX0_isDoubted : MethodName := ⟨RX0, "isDoubted", "(I)Z"⟩
abbrev cX0_isReviewable : ByteArray := prog_2_method_6_code
def yX0_isReviewable : MethodName := ⟨RX0, "isReviewable", "()Z"⟩
abbrev cX0_hasField : ByteArray := prog_2_method_7_code
def yX0_hasField : MethodName := ⟨RX0, "hasField", "(I)Z"⟩
abbrev cX0_isPutField : ByteArray := prog_2_method_8_code
def yX0_isPutField : MethodName := ⟨RX0, "isPutField", "(I)Z"⟩
abbrev cX0_accepts : ByteArray := prog_2_method_9_code
def yX0_accepts : MethodName := ⟨RX0, "accepts", "(II)Z"⟩
abbrev cX0_hasValue : ByteArray := prog_2_method_10_code
def yX0_hasValue : MethodName := ⟨RX0, "hasValue", "(I)Z"⟩
abbrev cX0_valueAt : ByteArray := prog_2_method_11_code
def yX0_valueAt : MethodName := ⟨RX0, "valueAt", "(I)I"⟩
abbrev cX0_write : ByteArray := prog_2_method_12_code
def yX0_write : MethodName := ⟨RX0, "write", "(II)V"⟩
abbrev cX0_countMissing : ByteArray := prog_2_method_13_code
def yX0_countMissing : MethodName := ⟨RX0, "countMissing", "()I"⟩
abbrev cX0_judge : ByteArray := prog_2_method_14_code
def yX0_judge : MethodName := ⟨RX0, "judge", "()V"⟩
abbrev cX0_refusingCheck : ByteArray := prog_2_method_15_code
def yX0_refusingCheck : MethodName := ⟨RX0, "refusingCheck", "()I"⟩
abbrev cX0_stateByDoubts : ByteArray := prog_2_method_16_code
def yX0_stateByDoubts : MethodName := ⟨RX0, "stateByDoubts", "()I"⟩
abbrev cX0_addDoubts : ByteArray := prog_2_method_17_code
def yX0_addDoubts : MethodName := ⟨RX0, "addDoubts", "(I)V"⟩
abbrev cX0_release : ByteArray := prog_2_method_18_code
def yX0_release : MethodName := ⟨RX0, "release", "(I)V"⟩
abbrev cX0_strike : ByteArray := prog_2_method_19_code
def yX0_strike : MethodName := ⟨RX0, "strike", "()V"⟩
abbrev cX0_meetVersion : ByteArray := prog_2_method_20_code
def yX0_meetVersion : MethodName := ⟨RX0, "meetVersion", "(LFormWright$Form;[LFormWright$Formula;)V"⟩
def RX1 : String := "FormWright$Form"
def TX1 : u_T := fun k => match k with
  | 0 => ("FormWright$Form", "types", "LFormWright$Types;", true)
  | 1 => ("FormWright$Form", "formulas", "[LFormWright$Formula;", true)
  | _ => ("FormWright$Form", "told", "[I", true)
def tyX1 : Nat → FieldType := fun k => match k with
  | 0 => .object "FormWright$Types"
  | 1 => .array (.object "FormWright$Formula")
  | _ => .array .int
abbrev wsX10 : List Cond := u_ws RX1 TX1 3
theorem nmX1 : ∀ a, a < 3 → ∀ b, b < 3 → a ≠ b → (TX1 a).2.1 ≠ (TX1 b).2.1 := by decide +kernel
theorem tyX1_ok : ∀ k, k < 3 → parseFieldDescriptor (TX1 k).2.2.1 = some (tyX1 k) := by decide +kernel
abbrev cX1_init : ByteArray := prog_3_method_1_code
def yX1_init : MethodName := ⟨RX1, "<init>", "()V"⟩
abbrev cX1_init_ : ByteArray := prog_3_method_2_code
def yX1_init_ : MethodName := ⟨RX1, "<init>", "(LFormWright$Types;)V"⟩
abbrev cX1_typeOfField : ByteArray := prog_3_method_3_code
def yX1_typeOfField : MethodName := ⟨RX1, "typeOfField", "(I)I"⟩
abbrev cX1_giveType : ByteArray := prog_3_method_4_code
def yX1_giveType : MethodName := ⟨RX1, "giveType", "(II)V"⟩
abbrev cX1_formulaAt : ByteArray := prog_3_method_5_code
def yX1_formulaAt : MethodName := ⟨RX1, "formulaAt", "(I)LFormWright$Formula;"⟩
abbrev cX1_giveFormula : ByteArray := prog_3_method_6_code
def yX1_giveFormula : MethodName := ⟨RX1, "giveFormula", "(ILFormWright$Formula;)V"⟩
abbrev cX1_isComputed : ByteArray := prog_3_method_7_code
def yX1_isComputed : MethodName := ⟨RX1, "isComputed", "(I)Z"⟩
abbrev cX1_typeOfFormula : ByteArray := prog_3_method_8_code
def yX1_typeOfFormula : MethodName := ⟨RX1, "typeOfFormula", "(LFormWright$Formula;)I"⟩
abbrev cX1_countFormulas : ByteArray := prog_3_method_9_code
def yX1_countFormulas : MethodName := ⟨RX1, "countFormulas", "()I"⟩
abbrev cX1_wouldBreak : ByteArray := prog_3_method_10_code
def yX1_wouldBreak : MethodName := ⟨RX1, "wouldBreak", "(ILFormWright$Formula;)Z"⟩
abbrev cX1_hasBroken : ByteArray := prog_3_method_11_code
def yX1_hasBroken : MethodName := ⟨RX1, "hasBroken", "(I)Z"⟩
abbrev cX1_countBroken : ByteArray := prog_3_method_12_code
def yX1_countBroken : MethodName := ⟨RX1, "countBroken", "()I"⟩
abbrev cX1_wouldCircle : ByteArray := prog_3_method_13_code
def yX1_wouldCircle : MethodName := ⟨RX1, "wouldCircle", "(ILFormWright$Formula;)Z"⟩
abbrev cX1_lettersAt : ByteArray := prog_3_method_14_code
def yX1_lettersAt : MethodName := ⟨RX1, "lettersAt", "(I)I"⟩
abbrev cX1_takeBroken : ByteArray := prog_3_method_15_code
def yX1_takeBroken : MethodName := ⟨RX1, "takeBroken", "()[LFormWright$Formula;"⟩
abbrev cX1_frozen : ByteArray := prog_3_method_16_code
def yX1_frozen : MethodName := ⟨RX1, "frozen", "()LFormWright$Form;"⟩
abbrev cX1_tellOrder : ByteArray := prog_3_method_17_code
def yX1_tellOrder : MethodName := ⟨RX1, "tellOrder", "()V"⟩
abbrev cX1_lowestFree : ByteArray := prog_3_method_18_code
def yX1_lowestFree : MethodName := ⟨RX1, "lowestFree", "(I)I"⟩
abbrev cX1_toldAt : ByteArray := prog_3_method_19_code
def yX1_toldAt : MethodName := ⟨RX1, "toldAt", "(I)I"⟩
abbrev cX1_fieldsThatFall : ByteArray := prog_3_method_20_code
def yX1_fieldsThatFall : MethodName := ⟨RX1, "fieldsThatFall", "(LFormWright$Form;[LFormWright$Formula;)I"⟩
def RX2 : String := "FormWright$Formula"
def TX2 : u_T := fun k => match k with
  | 0 => ("FormWright$Formula", "steps", "[I", true)
  | 1 => ("FormWright$Formula", "stack", "[I", true)
  | 2 => ("FormWright$Formula", "plainSigns", "[I", true)
  | _ => ("FormWright$Formula", "letters", "I", true)
def tyX2 : Nat → FieldType := fun k => match k with
  | 0 => .array .int
  | 1 => .array .int
  | 2 => .array .int
  | _ => .int
abbrev wsX20 : List Cond := u_ws RX2 TX2 4
theorem nmX2 : ∀ a, a < 4 → ∀ b, b < 4 → a ≠ b → (TX2 a).2.1 ≠ (TX2 b).2.1 := by decide +kernel
theorem tyX2_ok : ∀ k, k < 4 → parseFieldDescriptor (TX2 k).2.2.1 = some (tyX2 k) := by decide +kernel
abbrev cX2_init : ByteArray := prog_4_method_1_code
def yX2_init : MethodName := ⟨RX2, "<init>", "([I[II)V"⟩
abbrev cX2_letterSet : ByteArray := prog_4_method_2_code
def yX2_letterSet : MethodName := ⟨RX2, "letterSet", "()I"⟩
abbrev cX2_plainSign : ByteArray := prog_4_method_3_code
def yX2_plainSign : MethodName := ⟨RX2, "plainSign", "(I)I"⟩
abbrev cX2_looksLike : ByteArray := prog_4_method_4_code
def yX2_looksLike : MethodName := ⟨RX2, "looksLike", "(LFormWright$Formula;)Z"⟩
abbrev cX2_readFor : ByteArray := prog_4_method_5_code
def yX2_readFor : MethodName := ⟨RX2, "readFor", "(LFormWright$Reading;)I"⟩
def RX3 : String := "FormWright$Reading"
def TX3 : u_T := fun k => match k with
  | _ => ("", "", "", false)
def tyX3 : Nat → FieldType := fun k => match k with
  | _ => .int
abbrev wsX30 : List Cond := u_ws RX3 TX3 0
theorem nmX3 : ∀ a, a < 0 → ∀ b, b < 0 → a ≠ b → (TX3 a).2.1 ≠ (TX3 b).2.1 := by decide +kernel
theorem tyX3_ok : ∀ k, k < 0 → parseFieldDescriptor (TX3 k).2.2.1 = some (tyX3 k) := by decide +kernel
abbrev cX3_init : ByteArray := prog_5_method_1_code
def yX3_init : MethodName := ⟨RX3, "<init>", "()V"⟩
def RX4 : String := "FormWright$Source"
def TX4 : u_T := fun k => match k with
  | 0 => ("FormWright$Source", "text", "[C", true)
  | 1 => ("FormWright$Source", "length", "I", false)
  | 2 => ("FormWright$Source", "place", "I", false)
  | 3 => ("FormWright$Source", "steps", "[I", true)
  | 4 => ("FormWright$Source", "stepCount", "I", false)
  | 5 => ("FormWright$Source", "plainSigns", "[I", true)
  | 6 => ("FormWright$Source", "plainLength", "I", false)
  | _ => ("FormWright$Source", "letters", "I", false)
def tyX4 : Nat → FieldType := fun k => match k with
  | 0 => .array .char
  | 1 => .int
  | 2 => .int
  | 3 => .array .int
  | 4 => .int
  | 5 => .array .int
  | 6 => .int
  | _ => .int
abbrev wsX40 : List Cond := u_ws RX4 TX4 8
theorem nmX4 : ∀ a, a < 8 → ∀ b, b < 8 → a ≠ b → (TX4 a).2.1 ≠ (TX4 b).2.1 := by decide +kernel
theorem tyX4_ok : ∀ k, k < 8 → parseFieldDescriptor (TX4 k).2.2.1 = some (tyX4 k) := by decide +kernel
abbrev cX4_init : ByteArray := prog_6_method_1_code
def yX4_init : MethodName := ⟨RX4, "<init>", "()V"⟩
abbrev cX4_size : ByteArray := prog_6_method_2_code
def yX4_size : MethodName := ⟨RX4, "size", "()I"⟩
abbrev cX4_append : ByteArray := prog_6_method_3_code
def yX4_append : MethodName := ⟨RX4, "append", "(C)V"⟩
abbrev cX4_empty : ByteArray := prog_6_method_4_code
def yX4_empty : MethodName := ⟨RX4, "empty", "()V"⟩
abbrev cX4_firstError : ByteArray := prog_6_method_5_code
def yX4_firstError : MethodName := ⟨RX4, "firstError", "()I"⟩
abbrev cX4_made : ByteArray := prog_6_method_6_code
def yX4_made : MethodName := ⟨RX4, "made", "()LFormWright$Formula;"⟩
abbrev cX4_readParts : ByteArray := prog_6_method_7_code
def yX4_readParts : MethodName := ⟨RX4, "readParts", "(II)Z"⟩
abbrev cX4_readFactor : ByteArray := prog_6_method_8_code
def yX4_readFactor : MethodName := ⟨RX4, "readFactor", "(I)Z"⟩
abbrev cX4_readNot : ByteArray := prog_6_method_9_code
def yX4_readNot : MethodName := ⟨RX4, "readNot", "(I)Z"⟩
abbrev cX4_readBracket : ByteArray := prog_6_method_10_code
def yX4_readBracket : MethodName := ⟨RX4, "readBracket", "(I)Z"⟩
abbrev cX4_readNumber : ByteArray := prog_6_method_11_code
def yX4_readNumber : MethodName := ⟨RX4, "readNumber", "()V"⟩
abbrev cX4_readLetter : ByteArray := prog_6_method_12_code
def yX4_readLetter : MethodName := ⟨RX4, "readLetter", "(C)V"⟩
abbrev cX4_next : ByteArray := prog_6_method_13_code
def yX4_next : MethodName := ⟨RX4, "next", "()C"⟩
abbrev cX4_isDigit : ByteArray := prog_6_method_14_code
def yX4_isDigit : MethodName := ⟨RX4, "isDigit", "(C)Z"⟩
abbrev cX4_levelOf : ByteArray := prog_6_method_15_code
def yX4_levelOf : MethodName := ⟨RX4, "levelOf", "(I)I"⟩
abbrev cX4_addStep : ByteArray := prog_6_method_16_code
def yX4_addStep : MethodName := ⟨RX4, "addStep", "(I)V"⟩
abbrev cX4_writePlain : ByteArray := prog_6_method_17_code
def yX4_writePlain : MethodName := ⟨RX4, "writePlain", "(C)V"⟩
abbrev cX4_openPlain : ByteArray := prog_6_method_18_code
def yX4_openPlain : MethodName := ⟨RX4, "openPlain", "(I)V"⟩
def RX5 : String := "FormWright$Types"
def TX5 : u_T := fun k => match k with
  | _ => ("FormWright$Types", "row", "[I", true)
def tyX5 : Nat → FieldType := fun k => match k with
  | _ => .array .int
abbrev wsX50 : List Cond := u_ws RX5 TX5 1
theorem nmX5 : ∀ a, a < 1 → ∀ b, b < 1 → a ≠ b → (TX5 a).2.1 ≠ (TX5 b).2.1 := by decide +kernel
theorem tyX5_ok : ∀ k, k < 1 → parseFieldDescriptor (TX5 k).2.2.1 = some (tyX5 k) := by decide +kernel
abbrev cX5_init : ByteArray := prog_7_method_1_code
def yX5_init : MethodName := ⟨RX5, "<init>", "([I)V"⟩
abbrev cX5_copied : ByteArray := prog_7_method_2_code
def yX5_copied : MethodName := ⟨RX5, "copied", "()LFormWright$Types;"⟩
abbrev cX5_at : ByteArray := prog_7_method_3_code
def yX5_at : MethodName := ⟨RX5, "at", "(I)I"⟩
abbrev cX5_give : ByteArray := prog_7_method_4_code
def yX5_give : MethodName := ⟨RX5, "give", "(II)V"⟩
abbrev cX5_ofNumber : ByteArray := prog_7_method_5_code
def yX5_ofNumber : MethodName := ⟨RX5, "ofNumber", "(I)I"⟩
abbrev cX5_ofField : ByteArray := prog_7_method_6_code
def yX5_ofField : MethodName := ⟨RX5, "ofField", "(I)I"⟩
abbrev cX5_ofNot : ByteArray := prog_7_method_7_code
def yX5_ofNot : MethodName := ⟨RX5, "ofNot", "(I)I"⟩
abbrev cX5_ofSign : ByteArray := prog_7_method_8_code
def yX5_ofSign : MethodName := ⟨RX5, "ofSign", "(III)I"⟩
abbrev cX5_areAlike : ByteArray := prog_7_method_9_code
def yX5_areAlike : MethodName := ⟨RX5, "areAlike", "(II)Z"⟩
def RX6 : String := "FormWright$Values"
def TX6 : u_T := fun k => match k with
  | 0 => ("FormWright$Values", "row", "[I", true)
  | _ => ("FormWright$Values", "known", "I", false)
def tyX6 : Nat → FieldType := fun k => match k with
  | 0 => .array .int
  | _ => .int
abbrev wsX60 : List Cond := u_ws RX6 TX6 2
theorem nmX6 : ∀ a, a < 2 → ∀ b, b < 2 → a ≠ b → (TX6 a).2.1 ≠ (TX6 b).2.1 := by decide +kernel
theorem tyX6_ok : ∀ k, k < 2 → parseFieldDescriptor (TX6 k).2.2.1 = some (tyX6 k) := by decide +kernel
abbrev cX6_init : ByteArray := prog_8_method_1_code
def yX6_init : MethodName := ⟨RX6, "<init>", "()V"⟩
abbrev cX6_has : ByteArray := prog_8_method_2_code
def yX6_has : MethodName := ⟨RX6, "has", "(I)Z"⟩
abbrev cX6_at : ByteArray := prog_8_method_3_code
def yX6_at : MethodName := ⟨RX6, "at", "(I)I"⟩
abbrev cX6_give : ByteArray := prog_8_method_4_code
def yX6_give : MethodName := ⟨RX6, "give", "(II)V"⟩
abbrev cX6_ofNumber : ByteArray := prog_8_method_5_code
def yX6_ofNumber : MethodName := ⟨RX6, "ofNumber", "(I)I"⟩
abbrev cX6_ofField : ByteArray := prog_8_method_6_code
def yX6_ofField : MethodName := ⟨RX6, "ofField", "(I)I"⟩
abbrev cX6_ofNot : ByteArray := prog_8_method_7_code
def yX6_ofNot : MethodName := ⟨RX6, "ofNot", "(I)I"⟩
abbrev cX6_ofSign : ByteArray := prog_8_method_8_code
def yX6_ofSign : MethodName := ⟨RX6, "ofSign", "(III)I"⟩
def RX7 : String := "FormWright"
def TX7 : u_T := fun k => match k with
  | 0 => ("FormWright", "source", "LFormWright$Source;", true)
  | 1 => ("FormWright", "draft", "LFormWright$Form;", true)
  | 2 => ("FormWright", "published", "[LFormWright$Form;", true)
  | 3 => ("FormWright", "publishedCount", "I", false)
  | 4 => ("FormWright", "begun", "[LFormWright$Answer;", true)
  | _ => ("FormWright", "begunCount", "I", false)
def tyX7 : Nat → FieldType := fun k => match k with
  | 0 => .object "FormWright$Source"
  | 1 => .object "FormWright$Form"
  | 2 => .array (.object "FormWright$Form")
  | 3 => .int
  | 4 => .array (.object "FormWright$Answer")
  | _ => .int
abbrev wsX70 : List Cond := u_ws RX7 TX7 6
theorem nmX7 : ∀ a, a < 6 → ∀ b, b < 6 → a ≠ b → (TX7 a).2.1 ≠ (TX7 b).2.1 := by decide +kernel
theorem tyX7_ok : ∀ k, k < 6 → parseFieldDescriptor (TX7 k).2.2.1 = some (tyX7 k) := by decide +kernel
abbrev cX7_init : ByteArray := prog_1_method_1_code
def yX7_init : MethodName := ⟨RX7, "<init>", "()V"⟩
abbrev cX7_type : ByteArray := prog_1_method_2_code
def yX7_type : MethodName := ⟨RX7, "type", "(C)I"⟩
abbrev cX7_clear : ByteArray := prog_1_method_3_code
def yX7_clear : MethodName := ⟨RX7, "clear", "()I"⟩
abbrev cX7_error : ByteArray := prog_1_method_4_code
def yX7_error : MethodName := ⟨RX7, "error", "()I"⟩
abbrev cX7_typeOfText : ByteArray := prog_1_method_5_code
def yX7_typeOfText : MethodName := ⟨RX7, "typeOfText", "()I"⟩
abbrev cX7_setType : ByteArray := prog_1_method_6_code
def yX7_setType : MethodName := ⟨RX7, "setType", "(II)I"⟩
abbrev cX7_setFormula : ByteArray := prog_1_method_7_code
def yX7_setFormula : MethodName := ⟨RX7, "setFormula", "(I)I"⟩
abbrev cX7_dropFormula : ByteArray := prog_1_method_8_code
def yX7_dropFormula : MethodName := ⟨RX7, "dropFormula", "(I)Z"⟩
abbrev cX7_isBroken : ByteArray := prog_1_method_9_code
def yX7_isBroken : MethodName := ⟨RX7, "isBroken", "(I)Z"⟩
abbrev cX7_publish : ByteArray := prog_1_method_10_code
def yX7_publish : MethodName := ⟨RX7, "publish", "()I"⟩
abbrev cX7_versions : ByteArray := prog_1_method_11_code
def yX7_versions : MethodName := ⟨RX7, "versions", "()I"⟩
abbrev cX7_typeIn : ByteArray := prog_1_method_12_code
def yX7_typeIn : MethodName := ⟨RX7, "typeIn", "(II)I"⟩
abbrev cX7_order : ByteArray := prog_1_method_13_code
def yX7_order : MethodName := ⟨RX7, "order", "(II)I"⟩
abbrev cX7_plain : ByteArray := prog_1_method_14_code
def yX7_plain : MethodName := ⟨RX7, "plain", "(III)I"⟩
abbrev cX7_begin : ByteArray := prog_1_method_15_code
def yX7_begin : MethodName := ⟨RX7, "begin", "()I"⟩
abbrev cX7_put : ByteArray := prog_1_method_16_code
def yX7_put : MethodName := ⟨RX7, "put", "(III)I"⟩
abbrev cX7_handIn : ByteArray := prog_1_method_17_code
def yX7_handIn : MethodName := ⟨RX7, "handIn", "(I)I"⟩
abbrev cX7_answers : ByteArray := prog_1_method_18_code
def yX7_answers : MethodName := ⟨RX7, "answers", "()I"⟩
abbrev cX7_stateOf : ByteArray := prog_1_method_19_code
def yX7_stateOf : MethodName := ⟨RX7, "stateOf", "(I)I"⟩
abbrev cX7_versionOf : ByteArray := prog_1_method_20_code
def yX7_versionOf : MethodName := ⟨RX7, "versionOf", "(I)I"⟩
abbrev cX7_value : ByteArray := prog_1_method_21_code
def yX7_value : MethodName := ⟨RX7, "value", "(II)I"⟩
abbrev cX7_refusal : ByteArray := prog_1_method_22_code
def yX7_refusal : MethodName := ⟨RX7, "refusal", "(I)I"⟩
abbrev cX7_counted : ByteArray := prog_1_method_23_code
def yX7_counted : MethodName := ⟨RX7, "counted", "()I"⟩
abbrev cX7_doubt : ByteArray := prog_1_method_24_code
def yX7_doubt : MethodName := ⟨RX7, "doubt", "(II)Z"⟩
abbrev cX7_settle : ByteArray := prog_1_method_25_code
def yX7_settle : MethodName := ⟨RX7, "settle", "(IIZ)I"⟩
abbrev cX7_amend : ByteArray := prog_1_method_26_code
def yX7_amend : MethodName := ⟨RX7, "amend", "(III)I"⟩
abbrev cX7_doubts : ByteArray := prog_1_method_27_code
def yX7_doubts : MethodName := ⟨RX7, "doubts", "(I)I"⟩
abbrev cX7_requireField : ByteArray := prog_1_method_28_code
def yX7_requireField : MethodName := ⟨RX7, "requireField", "(I)V"⟩
abbrev cX7_requireFormula : ByteArray := prog_1_method_29_code
def yX7_requireFormula : MethodName := ⟨RX7, "requireFormula", "(I)V"⟩
abbrev cX7_requirePlace : ByteArray := prog_1_method_30_code
def yX7_requirePlace : MethodName := ⟨RX7, "requirePlace", "(I)V"⟩
abbrev cX7_requireVersion : ByteArray := prog_1_method_31_code
def yX7_requireVersion : MethodName := ⟨RX7, "requireVersion", "(I)LFormWright$Form;"⟩
abbrev cX7_requireAnswer : ByteArray := prog_1_method_32_code
def yX7_requireAnswer : MethodName := ⟨RX7, "requireAnswer", "(I)LFormWright$Answer;"⟩
abbrev cX7_isIn : ByteArray := prog_1_method_33_code
def yX7_isIn : MethodName := ⟨RX7, "isIn", "(II)Z"⟩
def RX8 : String := "FormWrightModel"
def TX8 : u_T := fun k => match k with
  | 0 => ("FormWrightModel", "text", "[I", true)
  | 1 => ("FormWrightModel", "textMany", "I", false)
  | 2 => ("FormWrightModel", "codes", "[I", true)
  | 3 => ("FormWrightModel", "lengths", "[I", true)
  | 4 => ("FormWrightModel", "types", "[I", true)
  | 5 => ("FormWrightModel", "versionMany", "I", false)
  | 6 => ("FormWrightModel", "answerMany", "I", false)
  | 7 => ("FormWrightModel", "states", "[I", true)
  | 8 => ("FormWrightModel", "versionsOf", "[I", true)
  | 9 => ("FormWrightModel", "values", "[I", true)
  | 10 => ("FormWrightModel", "hasValue", "[Z", true)
  | 11 => ("FormWrightModel", "doubted", "[I", true)
  | 12 => ("FormWrightModel", "thrown", "I", false)
  | 13 => ("FormWrightModel", "opened", "[I", true)
  | 14 => ("FormWrightModel", "openMany", "I", false)
  | 15 => ("FormWrightModel", "isRelated", "[Z", true)
  | 16 => ("FormWrightModel", "deep", "I", false)
  | 17 => ("FormWrightModel", "row", "[I", true)
  | 18 => ("FormWrightModel", "rowMany", "I", false)
  | 19 => ("FormWrightModel", "signs", "[I", true)
  | 20 => ("FormWrightModel", "signMany", "I", false)
  | 21 => ("FormWrightModel", "stack", "[I", true)
  | 22 => ("FormWrightModel", "ordered", "[I", true)
  | 23 => ("FormWrightModel", "plains", "[I", true)
  | 24 => ("FormWrightModel", "plainMany", "I", false)
  | _ => ("FormWrightModel", "work", "[I", true)
def tyX8 : Nat → FieldType := fun k => match k with
  | 0 => .array .int
  | 1 => .int
  | 2 => .array .int
  | 3 => .array .int
  | 4 => .array .int
  | 5 => .int
  | 6 => .int
  | 7 => .array .int
  | 8 => .array .int
  | 9 => .array .int
  | 10 => .array .boolean
  | 11 => .array .int
  | 12 => .int
  | 13 => .array .int
  | 14 => .int
  | 15 => .array .boolean
  | 16 => .int
  | 17 => .array .int
  | 18 => .int
  | 19 => .array .int
  | 20 => .int
  | 21 => .array .int
  | 22 => .array .int
  | 23 => .array .int
  | 24 => .int
  | _ => .array .int
abbrev wsX80 : List Cond := u_ws RX8 TX8 26
theorem nmX8 : ∀ a, a < 26 → ∀ b, b < 26 → a ≠ b → (TX8 a).2.1 ≠ (TX8 b).2.1 := by decide +kernel
theorem tyX8_ok : ∀ k, k < 26 → parseFieldDescriptor (TX8 k).2.2.1 = some (tyX8 k) := by decide +kernel
abbrev cX8_init : ByteArray := prog_10_method_1_code
def yX8_init : MethodName := ⟨RX8, "<init>", "()V"⟩
abbrev cX8_thrown : ByteArray := prog_10_method_2_code
def yX8_thrown : MethodName := ⟨RX8, "thrown", "()I"⟩
abbrev cX8_in : ByteArray := prog_10_method_3_code
def yX8_in : MethodName := ⟨RX8, "in", "(III)Z"⟩
abbrev cX8_isField : ByteArray := prog_10_method_4_code
def yX8_isField : MethodName := ⟨RX8, "isField", "(I)Z"⟩
abbrev cX8_isFormula : ByteArray := prog_10_method_5_code
def yX8_isFormula : MethodName := ⟨RX8, "isFormula", "(I)Z"⟩
abbrev cX8_endFactor : ByteArray := prog_10_method_6_code
def yX8_endFactor : MethodName := ⟨RX8, "endFactor", "()V"⟩
abbrev cX8_isDigit : ByteArray := prog_10_method_7_code
def yX8_isDigit : MethodName := ⟨RX8, "isDigit", "(I)Z"⟩
abbrev cX8_isLetter : ByteArray := prog_10_method_8_code
def yX8_isLetter : MethodName := ⟨RX8, "isLetter", "(I)Z"⟩
abbrev cX8_opens : ByteArray := prog_10_method_9_code
def yX8_opens : MethodName := ⟨RX8, "opens", "(I)Z"⟩
abbrev cX8_goesOn : ByteArray := prog_10_method_10_code
def yX8_goesOn : MethodName := ⟨RX8, "goesOn", "(I)Z"⟩
abbrev cX8_firstError : ByteArray := prog_10_method_11_code
def yX8_firstError : MethodName := ⟨RX8, "firstError", "()I"⟩
abbrev cX8_type : ByteArray := prog_10_method_12_code
def yX8_type : MethodName := ⟨RX8, "type", "(C)I"⟩
abbrev cX8_clear : ByteArray := prog_10_method_13_code
def yX8_clear : MethodName := ⟨RX8, "clear", "()I"⟩
abbrev cX8_error : ByteArray := prog_10_method_14_code
def yX8_error : MethodName := ⟨RX8, "error", "()I"⟩
abbrev cX8_rank : ByteArray := prog_10_method_15_code
def yX8_rank : MethodName := ⟨RX8, "rank", "(I)I"⟩
abbrev cX8_lay : ByteArray := prog_10_method_16_code
def yX8_lay : MethodName := ⟨RX8, "lay", "(I)V"⟩
abbrev cX8_layBangs : ByteArray := prog_10_method_17_code
def yX8_layBangs : MethodName := ⟨RX8, "layBangs", "()V"⟩
abbrev cX8_laySigns : ByteArray := prog_10_method_18_code
def yX8_laySigns : MethodName := ⟨RX8, "laySigns", "(I)V"⟩
abbrev cX8_layRow : ByteArray := prog_10_method_19_code
def yX8_layRow : MethodName := ⟨RX8, "layRow", "()V"⟩
abbrev cX8_typeFor : ByteArray := prog_10_method_20_code
def yX8_typeFor : MethodName := ⟨RX8, "typeFor", "(III)I"⟩
abbrev cX8_typeOf : ByteArray := prog_10_method_21_code
def yX8_typeOf : MethodName := ⟨RX8, "typeOf", "([III)I"⟩
abbrev cX8_valueFor : ByteArray := prog_10_method_22_code
def yX8_valueFor : MethodName := ⟨RX8, "valueFor", "(III)I"⟩
abbrev cX8_valueOf : ByteArray := prog_10_method_23_code
def yX8_valueOf : MethodName := ⟨RX8, "valueOf", "(II)I"⟩
abbrev cX8_hasLetter : ByteArray := prog_10_method_24_code
def yX8_hasLetter : MethodName := ⟨RX8, "hasLetter", "(II)Z"⟩
abbrev cX8_typeOfText : ByteArray := prog_10_method_25_code
def yX8_typeOfText : MethodName := ⟨RX8, "typeOfText", "()I"⟩
abbrev cX8_dueType : ByteArray := prog_10_method_26_code
def yX8_dueType : MethodName := ⟨RX8, "dueType", "(I)I"⟩
abbrev cX8_breaks : ByteArray := prog_10_method_27_code
def yX8_breaks : MethodName := ⟨RX8, "breaks", "(I)Z"⟩
abbrev cX8_brokenMany : ByteArray := prog_10_method_28_code
def yX8_brokenMany : MethodName := ⟨RX8, "brokenMany", "()I"⟩
abbrev cX8_setType : ByteArray := prog_10_method_29_code
def yX8_setType : MethodName := ⟨RX8, "setType", "(II)I"⟩
abbrev cX8_isReached : ByteArray := prog_10_method_30_code
def yX8_isReached : MethodName := ⟨RX8, "isReached", "(I)Z"⟩
abbrev cX8_setFormula : ByteArray := prog_10_method_31_code
def yX8_setFormula : MethodName := ⟨RX8, "setFormula", "(I)I"⟩
abbrev cX8_dropFormula : ByteArray := prog_10_method_32_code
def yX8_dropFormula : MethodName := ⟨RX8, "dropFormula", "(I)Z"⟩
abbrev cX8_isBroken : ByteArray := prog_10_method_33_code
def yX8_isBroken : MethodName := ⟨RX8, "isBroken", "(I)Z"⟩
abbrev cX8_areAlike : ByteArray := prog_10_method_34_code
def yX8_areAlike : MethodName := ⟨RX8, "areAlike", "(II)Z"⟩
abbrev cX8_typeAt : ByteArray := prog_10_method_35_code
def yX8_typeAt : MethodName := ⟨RX8, "typeAt", "(II)I"⟩
abbrev cX8_doubtFor : ByteArray := prog_10_method_36_code
def yX8_doubtFor : MethodName := ⟨RX8, "doubtFor", "(II)V"⟩
abbrev cX8_publish : ByteArray := prog_10_method_37_code
def yX8_publish : MethodName := ⟨RX8, "publish", "()I"⟩
abbrev cX8_isVersion : ByteArray := prog_10_method_38_code
def yX8_isVersion : MethodName := ⟨RX8, "isVersion", "(I)Z"⟩
abbrev cX8_versions : ByteArray := prog_10_method_39_code
def yX8_versions : MethodName := ⟨RX8, "versions", "()I"⟩
abbrev cX8_typeIn : ByteArray := prog_10_method_40_code
def yX8_typeIn : MethodName := ⟨RX8, "typeIn", "(II)I"⟩
abbrev cX8_isComputed : ByteArray := prog_10_method_41_code
def yX8_isComputed : MethodName := ⟨RX8, "isComputed", "(II)Z"⟩
abbrev cX8_layOrder : ByteArray := prog_10_method_42_code
def yX8_layOrder : MethodName := ⟨RX8, "layOrder", "(I)I"⟩
abbrev cX8_order : ByteArray := prog_10_method_43_code
def yX8_order : MethodName := ⟨RX8, "order", "(II)I"⟩
abbrev cX8_lays : ByteArray := prog_10_method_44_code
def yX8_lays : MethodName := ⟨RX8, "lays", "(I)V"⟩
abbrev cX8_putNumber : ByteArray := prog_10_method_45_code
def yX8_putNumber : MethodName := ⟨RX8, "putNumber", "(I)V"⟩
abbrev cX8_beginOf : ByteArray := prog_10_method_46_code
def yX8_beginOf : MethodName := ⟨RX8, "beginOf", "(I)I"⟩
abbrev cX8_layPlain : ByteArray := prog_10_method_47_code
def yX8_layPlain : MethodName := ⟨RX8, "layPlain", "(I)V"⟩
abbrev cX8_plain : ByteArray := prog_10_method_48_code
def yX8_plain : MethodName := ⟨RX8, "plain", "(III)I"⟩
abbrev cX8_isAnswer : ByteArray := prog_10_method_49_code
def yX8_isAnswer : MethodName := ⟨RX8, "isAnswer", "(I)Z"⟩
abbrev cX8_begin : ByteArray := prog_10_method_50_code
def yX8_begin : MethodName := ⟨RX8, "begin", "()I"⟩
abbrev cX8_canPut : ByteArray := prog_10_method_51_code
def yX8_canPut : MethodName := ⟨RX8, "canPut", "(II)Z"⟩
abbrev cX8_isRight : ByteArray := prog_10_method_52_code
def yX8_isRight : MethodName := ⟨RX8, "isRight", "(III)Z"⟩
abbrev cX8_lacking : ByteArray := prog_10_method_53_code
def yX8_lacking : MethodName := ⟨RX8, "lacking", "(I)I"⟩
abbrev cX8_areOne : ByteArray := prog_10_method_54_code
def yX8_areOne : MethodName := ⟨RX8, "areOne", "(II)Z"⟩
abbrev cX8_put : ByteArray := prog_10_method_55_code
def yX8_put : MethodName := ⟨RX8, "put", "(III)I"⟩
abbrev cX8_compute : ByteArray := prog_10_method_56_code
def yX8_compute : MethodName := ⟨RX8, "compute", "(I)V"⟩
abbrev cX8_refusing : ByteArray := prog_10_method_57_code
def yX8_refusing : MethodName := ⟨RX8, "refusing", "(I)I"⟩
abbrev cX8_judge : ByteArray := prog_10_method_58_code
def yX8_judge : MethodName := ⟨RX8, "judge", "(I)I"⟩
abbrev cX8_handIn : ByteArray := prog_10_method_59_code
def yX8_handIn : MethodName := ⟨RX8, "handIn", "(I)I"⟩
abbrev cX8_answers : ByteArray := prog_10_method_60_code
def yX8_answers : MethodName := ⟨RX8, "answers", "()I"⟩
abbrev cX8_asksFor : ByteArray := prog_10_method_61_code
def yX8_asksFor : MethodName := ⟨RX8, "asksFor", "(I)Z"⟩
abbrev cX8_stateOf : ByteArray := prog_10_method_62_code
def yX8_stateOf : MethodName := ⟨RX8, "stateOf", "(I)I"⟩
abbrev cX8_versionOf : ByteArray := prog_10_method_63_code
def yX8_versionOf : MethodName := ⟨RX8, "versionOf", "(I)I"⟩
abbrev cX8_value : ByteArray := prog_10_method_64_code
def yX8_value : MethodName := ⟨RX8, "value", "(II)I"⟩
abbrev cX8_refusal : ByteArray := prog_10_method_65_code
def yX8_refusal : MethodName := ⟨RX8, "refusal", "(I)I"⟩
abbrev cX8_counted : ByteArray := prog_10_method_66_code
def yX8_counted : MethodName := ⟨RX8, "counted", "()I"⟩
abbrev cX8_doubt : ByteArray := prog_10_method_67_code
def yX8_doubt : MethodName := ⟨RX8, "doubt", "(II)Z"⟩
abbrev cX8_settle : ByteArray := prog_10_method_68_code
def yX8_settle : MethodName := ⟨RX8, "settle", "(IIZ)I"⟩
abbrev cX8_amend : ByteArray := prog_10_method_69_code
def yX8_amend : MethodName := ⟨RX8, "amend", "(III)I"⟩
abbrev cX8_doubts : ByteArray := prog_10_method_70_code
def yX8_doubts : MethodName := ⟨RX8, "doubts", "(I)I"⟩
def RJx145de : String := "java/io/Serializable"
def TJx145de : u_T := fun k => match k with
  | _ => ("", "", "", false)
def tyJx145de : Nat → FieldType := fun k => match k with
  | _ => .int
abbrev wsJx145de0 : List Cond := u_ws RJx145de TJx145de 0
theorem nmJx145de : ∀ a, a < 0 → ∀ b, b < 0 → a ≠ b → (TJx145de a).2.1 ≠ (TJx145de b).2.1 := by decide +kernel
theorem tyJx145de_ok : ∀ k, k < 0 → parseFieldDescriptor (TJx145de k).2.2.1 = some (tyJx145de k) := by decide +kernel
def RJx8e188 : String := "java/lang/Cloneable"
def TJx8e188 : u_T := fun k => match k with
  | _ => ("", "", "", false)
def tyJx8e188 : Nat → FieldType := fun k => match k with
  | _ => .int
abbrev wsJx8e1880 : List Cond := u_ws RJx8e188 TJx8e188 0
theorem nmJx8e188 : ∀ a, a < 0 → ∀ b, b < 0 → a ≠ b → (TJx8e188 a).2.1 ≠ (TJx8e188 b).2.1 := by decide +kernel
theorem tyJx8e188_ok : ∀ k, k < 0 → parseFieldDescriptor (TJx8e188 k).2.2.1 = some (tyJx8e188 k) := by decide +kernel
def RJ9 : String := "java/lang/Math"
def TJ9 : u_T := fun k => match k with
  | _ => ("", "", "", false)
def tyJ9 : Nat → FieldType := fun k => match k with
  | _ => .int
abbrev wsJ90 : List Cond := u_ws RJ9 TJ9 0
theorem nmJ9 : ∀ a, a < 0 → ∀ b, b < 0 → a ≠ b → (TJ9 a).2.1 ≠ (TJ9 b).2.1 := by decide +kernel
theorem tyJ9_ok : ∀ k, k < 0 → parseFieldDescriptor (TJ9 k).2.2.1 = some (tyJ9 k) := by decide +kernel
abbrev cJ9_min_7cf53 : ByteArray := prog_16_method_69_code
def yJ9_min_7cf53 : MethodName := ⟨RJ9, "min", "(II)I"⟩
def RJ0 : String := "java/lang/String"
def TJ0 : u_T := fun k => match k with
  | _ => ("", "", "", false)
def tyJ0 : Nat → FieldType := fun k => match k with
  | _ => .int
abbrev wsJ00 : List Cond := u_ws RJ0 TJ0 0
theorem nmJ0 : ∀ a, a < 0 → ∀ b, b < 0 → a ≠ b → (TJ0 a).2.1 ≠ (TJ0 b).2.1 := by decide +kernel
theorem tyJ0_ok : ∀ k, k < 0 → parseFieldDescriptor (TJ0 k).2.2.1 = some (tyJ0 k) := by decide +kernel
def RJ10 : String := "java/lang/System"
def TJ10 : u_T := fun k => match k with
  | _ => ("", "", "", false)
def tyJ10 : Nat → FieldType := fun k => match k with
  | _ => .int
abbrev wsJ100 : List Cond := u_ws RJ10 TJ10 0
theorem nmJ10 : ∀ a, a < 0 → ∀ b, b < 0 → a ≠ b → (TJ10 a).2.1 ≠ (TJ10 b).2.1 := by decide +kernel
theorem tyJ10_ok : ∀ k, k < 0 → parseFieldDescriptor (TJ10 k).2.2.1 = some (tyJ10 k) := by decide +kernel
def RJ7 : String := "java/util/Arrays"
def TJ7 : u_T := fun k => match k with
  | _ => ("", "", "", false)
def tyJ7 : Nat → FieldType := fun k => match k with
  | _ => .int
abbrev wsJ70 : List Cond := u_ws RJ7 TJ7 0
theorem nmJ7 : ∀ a, a < 0 → ∀ b, b < 0 → a ≠ b → (TJ7 a).2.1 ≠ (TJ7 b).2.1 := by decide +kernel
theorem tyJ7_ok : ∀ k, k < 0 → parseFieldDescriptor (TJ7 k).2.2.1 = some (tyJ7 k) := by decide +kernel
abbrev cJ7_copyOf_59c91 : ByteArray := prog_21_method_123_code
def yJ7_copyOf_59c91 : MethodName := ⟨RJ7, "copyOf", "([II)[I"⟩
def RL : String := "FormWrightLaw"
abbrev cL_type : ByteArray := method_3_code
def yL_type : MethodName := ⟨RL, "type", "(LFormWright;C[J)I"⟩
abbrev cL_typeOfText : ByteArray := method_4_code
def yL_typeOfText : MethodName := ⟨RL, "typeOfText", "(LFormWright;[J)I"⟩
abbrev cL_setType : ByteArray := method_5_code
def yL_setType : MethodName := ⟨RL, "setType", "(LFormWright;II[J)I"⟩
abbrev cL_setFormula : ByteArray := method_6_code
def yL_setFormula : MethodName := ⟨RL, "setFormula", "(LFormWright;I[J)I"⟩
abbrev cL_dropFormula : ByteArray := method_7_code
def yL_dropFormula : MethodName := ⟨RL, "dropFormula", "(LFormWright;I[J)I"⟩
abbrev cL_isBroken : ByteArray := method_8_code
def yL_isBroken : MethodName := ⟨RL, "isBroken", "(LFormWright;I[J)I"⟩
abbrev cL_publish : ByteArray := method_9_code
def yL_publish : MethodName := ⟨RL, "publish", "(LFormWright;[J)I"⟩
abbrev cL_typeIn : ByteArray := method_10_code
def yL_typeIn : MethodName := ⟨RL, "typeIn", "(LFormWright;II[J)I"⟩
abbrev cL_order : ByteArray := method_11_code
def yL_order : MethodName := ⟨RL, "order", "(LFormWright;II[J)I"⟩
abbrev cL_plain : ByteArray := method_12_code
def yL_plain : MethodName := ⟨RL, "plain", "(LFormWright;III[J)I"⟩
abbrev cL_begin : ByteArray := method_13_code
def yL_begin : MethodName := ⟨RL, "begin", "(LFormWright;[J)I"⟩
abbrev cL_put : ByteArray := method_14_code
def yL_put : MethodName := ⟨RL, "put", "(LFormWright;III[J)I"⟩
abbrev cL_handIn : ByteArray := method_15_code
def yL_handIn : MethodName := ⟨RL, "handIn", "(LFormWright;I[J)I"⟩
abbrev cL_stateOf : ByteArray := method_16_code
def yL_stateOf : MethodName := ⟨RL, "stateOf", "(LFormWright;I[J)I"⟩
abbrev cL_versionOf : ByteArray := method_17_code
def yL_versionOf : MethodName := ⟨RL, "versionOf", "(LFormWright;I[J)I"⟩
abbrev cL_value : ByteArray := method_18_code
def yL_value : MethodName := ⟨RL, "value", "(LFormWright;II[J)I"⟩
abbrev cL_refusal : ByteArray := method_19_code
def yL_refusal : MethodName := ⟨RL, "refusal", "(LFormWright;I[J)I"⟩
abbrev cL_doubt : ByteArray := method_20_code
def yL_doubt : MethodName := ⟨RL, "doubt", "(LFormWright;II[J)I"⟩
abbrev cL_settle : ByteArray := method_21_code
def yL_settle : MethodName := ⟨RL, "settle", "(LFormWright;IIZ[J)I"⟩
abbrev cL_amend : ByteArray := method_22_code
def yL_amend : MethodName := ⟨RL, "amend", "(LFormWright;III[J)I"⟩
abbrev cL_doubts : ByteArray := method_23_code
def yL_doubts : MethodName := ⟨RL, "doubts", "(LFormWright;I[J)I"⟩
abbrev cL_law : ByteArray := code
def yL_law : MethodName := ⟨RL, "law", "([I)Z"⟩
abbrev vwCl : List vw_C := [(RX0, TX0, 5), (RX1, TX1, 3), (RX2, TX2, 4), (RX4, TX4, 8), (RX5, TX5, 1), (RX6, TX6, 2), (RX7, TX7, 6), (RX8, TX8, 26)]
end
section
theorem dX0_init_0 : decode cX0_init 0 = .ok (.aload_n 0, 1) := by decide +kernel
theorem dX0_init_1 : decode cX0_init 1 = .ok (.invokespecial 3, 3) := by decide +kernel
theorem dX0_init_4 : decode cX0_init 4 = .ok (.aload_n 0, 1) := by decide +kernel
theorem dX0_init_5 : decode cX0_init 5 = .ok (.new 9, 3) := by decide +kernel
theorem dX0_init_8 : decode cX0_init 8 = .ok (.dup, 1) := by decide +kernel
theorem dX0_init_9 : decode cX0_init 9 = .ok (.invokespecial 11, 3) := by decide +kernel
theorem dX0_init_12 : decode cX0_init 12 = .ok (.putfield 12, 3) := by decide +kernel
theorem dX0_init_15 : decode cX0_init 15 = .ok (.aload_n 0, 1) := by decide +kernel
theorem dX0_init_16 : decode cX0_init 16 = .ok (.iconst 0, 1) := by decide +kernel
theorem dX0_init_17 : decode cX0_init 17 = .ok (.putfield 18, 3) := by decide +kernel
theorem dX0_init_20 : decode cX0_init 20 = .ok (.aload_n 0, 1) := by decide +kernel
theorem dX0_init_21 : decode cX0_init 21 = .ok (.iconst 0, 1) := by decide +kernel
theorem dX0_init_22 : decode cX0_init 22 = .ok (.putfield 22, 3) := by decide +kernel
theorem dX0_init_25 : decode cX0_init 25 = .ok (.aload_n 0, 1) := by decide +kernel
theorem dX0_init_26 : decode cX0_init 26 = .ok (.iload_n 1, 1) := by decide +kernel
theorem dX0_init_27 : decode cX0_init 27 = .ok (.putfield 25, 3) := by decide +kernel
theorem dX0_init_30 : decode cX0_init 30 = .ok (.aload_n 0, 1) := by decide +kernel
theorem dX0_init_31 : decode cX0_init 31 = .ok (.aload_n 2, 1) := by decide +kernel
theorem dX0_init_32 : decode cX0_init 32 = .ok (.putfield 28, 3) := by decide +kernel
theorem dX0_init_35 : decode cX0_init 35 = .ok (.return_, 1) := by decide +kernel
theorem dX0_versionNumber_0 : decode cX0_versionNumber 0 = .ok (.aload_n 0, 1) := by decide +kernel
theorem dX0_versionNumber_1 : decode cX0_versionNumber 1 = .ok (.getfield 25, 3) := by decide +kernel
theorem dX0_versionNumber_4 : decode cX0_versionNumber 4 = .ok (.ireturn, 1) := by decide +kernel
theorem dX0_stateNow_0 : decode cX0_stateNow 0 = .ok (.aload_n 0, 1) := by decide +kernel
theorem dX0_stateNow_1 : decode cX0_stateNow 1 = .ok (.getfield 18, 3) := by decide +kernel
theorem dX0_stateNow_4 : decode cX0_stateNow 4 = .ok (.ireturn, 1) := by decide +kernel
theorem dX0_doubtedFields_0 : decode cX0_doubtedFields 0 = .ok (.aload_n 0, 1) := by decide +kernel
theorem dX0_doubtedFields_1 : decode cX0_doubtedFields 1 = .ok (.getfield 22, 3) := by decide +kernel
theorem dX0_doubtedFields_4 : decode cX0_doubtedFields 4 = .ok (.ireturn, 1) := by decide +kernel
theorem dX0_isDoubted_0 : decode cX0_isDoubted 0 = .ok (.aload_n 0, 1) := by decide +kernel
theorem dX0_isDoubted_1 : decode cX0_isDoubted 1 = .ok (.getfield 22, 3) := by decide +kernel
theorem dX0_isDoubted_4 : decode cX0_isDoubted 4 = .ok (.iload_n 1, 1) := by decide +kernel
theorem dX0_isDoubted_5 : decode cX0_isDoubted 5 = .ok (.invokestatic 32, 3) := by decide +kernel
theorem dX0_isDoubted_8 : decode cX0_isDoubted 8 = .ok (.ireturn, 1) := by decide +kernel
theorem dX0_isReviewable_0 : decode cX0_isReviewable 0 = .ok (.aload_n 0, 1) := by decide +kernel
theorem dX0_isReviewable_1 : decode cX0_isReviewable 1 = .ok (.getfield 18, 3) := by decide +kernel
theorem dX0_isReviewable_4 : decode cX0_isReviewable 4 = .ok (.iconst 1, 1) := by decide +kernel
theorem dX0_isReviewable_5 : decode cX0_isReviewable 5 = .ok (.if_icmp .eq 11, 3) := by decide +kernel
theorem dX0_isReviewable_8 : decode cX0_isReviewable 8 = .ok (.aload_n 0, 1) := by decide +kernel
theorem dX0_isReviewable_9 : decode cX0_isReviewable 9 = .ok (.getfield 18, 3) := by decide +kernel
theorem dX0_isReviewable_12 : decode cX0_isReviewable 12 = .ok (.iconst 3, 1) := by decide +kernel
theorem dX0_isReviewable_13 : decode cX0_isReviewable 13 = .ok (.if_icmp .ne 7, 3) := by decide +kernel
theorem dX0_isReviewable_16 : decode cX0_isReviewable 16 = .ok (.iconst 1, 1) := by decide +kernel
theorem dX0_isReviewable_17 : decode cX0_isReviewable 17 = .ok (.goto 4, 3) := by decide +kernel
theorem dX0_isReviewable_20 : decode cX0_isReviewable 20 = .ok (.iconst 0, 1) := by decide +kernel
theorem dX0_isReviewable_21 : decode cX0_isReviewable 21 = .ok (.ireturn, 1) := by decide +kernel
theorem dX0_hasField_0 : decode cX0_hasField 0 = .ok (.aload_n 0, 1) := by decide +kernel
theorem dX0_hasField_1 : decode cX0_hasField 1 = .ok (.getfield 28, 3) := by decide +kernel
theorem dX0_hasField_4 : decode cX0_hasField 4 = .ok (.iload_n 1, 1) := by decide +kernel
theorem dX0_hasField_5 : decode cX0_hasField 5 = .ok (.invokevirtual 36, 3) := by decide +kernel
theorem dX0_hasField_8 : decode cX0_hasField 8 = .ok (.ifCond .eq 7, 3) := by decide +kernel
theorem dX0_hasField_11 : decode cX0_hasField 11 = .ok (.iconst 1, 1) := by decide +kernel
theorem dX0_hasField_12 : decode cX0_hasField 12 = .ok (.goto 4, 3) := by decide +kernel
theorem dX0_hasField_15 : decode cX0_hasField 15 = .ok (.iconst 0, 1) := by decide +kernel
theorem dX0_hasField_16 : decode cX0_hasField 16 = .ok (.ireturn, 1) := by decide +kernel
theorem dX0_isPutField_0 : decode cX0_isPutField 0 = .ok (.aload_n 0, 1) := by decide +kernel
theorem dX0_isPutField_1 : decode cX0_isPutField 1 = .ok (.iload_n 1, 1) := by decide +kernel
theorem dX0_isPutField_2 : decode cX0_isPutField 2 = .ok (.invokevirtual 42, 3) := by decide +kernel
theorem dX0_isPutField_5 : decode cX0_isPutField 5 = .ok (.ifCond .eq 18, 3) := by decide +kernel
theorem dX0_isPutField_8 : decode cX0_isPutField 8 = .ok (.aload_n 0, 1) := by decide +kernel
theorem dX0_isPutField_9 : decode cX0_isPutField 9 = .ok (.getfield 28, 3) := by decide +kernel
theorem dX0_isPutField_12 : decode cX0_isPutField 12 = .ok (.iload_n 1, 1) := by decide +kernel
theorem dX0_isPutField_13 : decode cX0_isPutField 13 = .ok (.invokevirtual 46, 3) := by decide +kernel
theorem dX0_isPutField_16 : decode cX0_isPutField 16 = .ok (.ifCond .ne 7, 3) := by decide +kernel
theorem dX0_isPutField_19 : decode cX0_isPutField 19 = .ok (.iconst 1, 1) := by decide +kernel
theorem dX0_isPutField_20 : decode cX0_isPutField 20 = .ok (.goto 4, 3) := by decide +kernel
theorem dX0_isPutField_23 : decode cX0_isPutField 23 = .ok (.iconst 0, 1) := by decide +kernel
theorem dX0_isPutField_24 : decode cX0_isPutField 24 = .ok (.ireturn, 1) := by decide +kernel
theorem dX0_accepts_0 : decode cX0_accepts 0 = .ok (.aload_n 0, 1) := by decide +kernel
theorem dX0_accepts_1 : decode cX0_accepts 1 = .ok (.getfield 28, 3) := by decide +kernel
theorem dX0_accepts_4 : decode cX0_accepts 4 = .ok (.iload_n 1, 1) := by decide +kernel
theorem dX0_accepts_5 : decode cX0_accepts 5 = .ok (.invokevirtual 36, 3) := by decide +kernel
theorem dX0_accepts_8 : decode cX0_accepts 8 = .ok (.tableswitch 79 1 3 #[28, 48, 63], 28) := by decide +kernel
theorem dX0_accepts_36 : decode cX0_accepts 36 = .ok (.iload_n 2, 1) := by decide +kernel
theorem dX0_accepts_37 : decode cX0_accepts 37 = .ok (.sipush (-999), 3) := by decide +kernel
theorem dX0_accepts_40 : decode cX0_accepts 40 = .ok (.if_icmp .lt 14, 3) := by decide +kernel
theorem dX0_accepts_43 : decode cX0_accepts 43 = .ok (.iload_n 2, 1) := by decide +kernel
theorem dX0_accepts_44 : decode cX0_accepts 44 = .ok (.sipush 999, 3) := by decide +kernel
theorem dX0_accepts_47 : decode cX0_accepts 47 = .ok (.if_icmp .gt 7, 3) := by decide +kernel
theorem dX0_accepts_50 : decode cX0_accepts 50 = .ok (.iconst 1, 1) := by decide +kernel
theorem dX0_accepts_51 : decode cX0_accepts 51 = .ok (.goto 4, 3) := by decide +kernel
theorem dX0_accepts_54 : decode cX0_accepts 54 = .ok (.iconst 0, 1) := by decide +kernel
theorem dX0_accepts_55 : decode cX0_accepts 55 = .ok (.ireturn, 1) := by decide +kernel
theorem dX0_accepts_56 : decode cX0_accepts 56 = .ok (.iload_n 2, 1) := by decide +kernel
theorem dX0_accepts_57 : decode cX0_accepts 57 = .ok (.ifCond .eq 8, 3) := by decide +kernel
theorem dX0_accepts_60 : decode cX0_accepts 60 = .ok (.iload_n 2, 1) := by decide +kernel
theorem dX0_accepts_61 : decode cX0_accepts 61 = .ok (.iconst 1, 1) := by decide +kernel
theorem dX0_accepts_62 : decode cX0_accepts 62 = .ok (.if_icmp .ne 7, 3) := by decide +kernel
theorem dX0_accepts_65 : decode cX0_accepts 65 = .ok (.iconst 1, 1) := by decide +kernel
theorem dX0_accepts_66 : decode cX0_accepts 66 = .ok (.goto 4, 3) := by decide +kernel
theorem dX0_accepts_69 : decode cX0_accepts 69 = .ok (.iconst 0, 1) := by decide +kernel
theorem dX0_accepts_70 : decode cX0_accepts 70 = .ok (.ireturn, 1) := by decide +kernel
theorem dX0_accepts_71 : decode cX0_accepts 71 = .ok (.iload_n 2, 1) := by decide +kernel
theorem dX0_accepts_72 : decode cX0_accepts 72 = .ok (.ifCond .lt 13, 3) := by decide +kernel
theorem dX0_accepts_75 : decode cX0_accepts 75 = .ok (.iload_n 2, 1) := by decide +kernel
theorem dX0_accepts_76 : decode cX0_accepts 76 = .ok (.bipush 9, 2) := by decide +kernel
theorem dX0_accepts_78 : decode cX0_accepts 78 = .ok (.if_icmp .gt 7, 3) := by decide +kernel
theorem dX0_accepts_81 : decode cX0_accepts 81 = .ok (.iconst 1, 1) := by decide +kernel
theorem dX0_accepts_82 : decode cX0_accepts 82 = .ok (.goto 4, 3) := by decide +kernel
theorem dX0_accepts_85 : decode cX0_accepts 85 = .ok (.iconst 0, 1) := by decide +kernel
theorem dX0_accepts_86 : decode cX0_accepts 86 = .ok (.ireturn, 1) := by decide +kernel
theorem dX0_accepts_87 : decode cX0_accepts 87 = .ok (.iconst 0, 1) := by decide +kernel
theorem dX0_accepts_88 : decode cX0_accepts 88 = .ok (.ireturn, 1) := by decide +kernel
theorem dX0_hasValue_0 : decode cX0_hasValue 0 = .ok (.aload_n 0, 1) := by decide +kernel
theorem dX0_hasValue_1 : decode cX0_hasValue 1 = .ok (.getfield 12, 3) := by decide +kernel
theorem dX0_hasValue_4 : decode cX0_hasValue 4 = .ok (.iload_n 1, 1) := by decide +kernel
theorem dX0_hasValue_5 : decode cX0_hasValue 5 = .ok (.invokevirtual 49, 3) := by decide +kernel
theorem dX0_hasValue_8 : decode cX0_hasValue 8 = .ok (.ireturn, 1) := by decide +kernel
theorem dX0_valueAt_0 : decode cX0_valueAt 0 = .ok (.aload_n 0, 1) := by decide +kernel
theorem dX0_valueAt_1 : decode cX0_valueAt 1 = .ok (.getfield 12, 3) := by decide +kernel
theorem dX0_valueAt_4 : decode cX0_valueAt 4 = .ok (.iload_n 1, 1) := by decide +kernel
theorem dX0_valueAt_5 : decode cX0_valueAt 5 = .ok (.invokevirtual 52, 3) := by decide +kernel
theorem dX0_valueAt_8 : decode cX0_valueAt 8 = .ok (.ireturn, 1) := by decide +kernel
theorem dX0_write_0 : decode cX0_write 0 = .ok (.aload_n 0, 1) := by decide +kernel
theorem dX0_write_1 : decode cX0_write 1 = .ok (.getfield 12, 3) := by decide +kernel
theorem dX0_write_4 : decode cX0_write 4 = .ok (.iload_n 1, 1) := by decide +kernel
theorem dX0_write_5 : decode cX0_write 5 = .ok (.iload_n 2, 1) := by decide +kernel
theorem dX0_write_6 : decode cX0_write 6 = .ok (.invokevirtual 55, 3) := by decide +kernel
theorem dX0_write_9 : decode cX0_write 9 = .ok (.return_, 1) := by decide +kernel
theorem dX0_countMissing_0 : decode cX0_countMissing 0 = .ok (.iconst 0, 1) := by decide +kernel
theorem dX0_countMissing_1 : decode cX0_countMissing 1 = .ok (.istore_n 1, 1) := by decide +kernel
theorem dX0_countMissing_2 : decode cX0_countMissing 2 = .ok (.iconst 0, 1) := by decide +kernel
theorem dX0_countMissing_3 : decode cX0_countMissing 3 = .ok (.istore_n 2, 1) := by decide +kernel
theorem dX0_countMissing_4 : decode cX0_countMissing 4 = .ok (.iload_n 2, 1) := by decide +kernel
theorem dX0_countMissing_5 : decode cX0_countMissing 5 = .ok (.bipush 6, 2) := by decide +kernel
theorem dX0_countMissing_7 : decode cX0_countMissing 7 = .ok (.if_icmp .ge 28, 3) := by decide +kernel
theorem dX0_countMissing_10 : decode cX0_countMissing 10 = .ok (.aload_n 0, 1) := by decide +kernel
theorem dX0_countMissing_11 : decode cX0_countMissing 11 = .ok (.iload_n 2, 1) := by decide +kernel
theorem dX0_countMissing_12 : decode cX0_countMissing 12 = .ok (.invokevirtual 59, 3) := by decide +kernel
theorem dX0_countMissing_15 : decode cX0_countMissing 15 = .ok (.ifCond .eq 14, 3) := by decide +kernel
theorem dX0_countMissing_18 : decode cX0_countMissing 18 = .ok (.aload_n 0, 1) := by decide +kernel
theorem dX0_countMissing_19 : decode cX0_countMissing 19 = .ok (.iload_n 2, 1) := by decide +kernel
theorem dX0_countMissing_20 : decode cX0_countMissing 20 = .ok (.invokevirtual 62, 3) := by decide +kernel
theorem dX0_countMissing_23 : decode cX0_countMissing 23 = .ok (.ifCond .ne 6, 3) := by decide +kernel
theorem dX0_countMissing_26 : decode cX0_countMissing 26 = .ok (.iinc 1 1, 3) := by decide +kernel
theorem dX0_countMissing_29 : decode cX0_countMissing 29 = .ok (.iinc 2 1, 3) := by decide +kernel
theorem dX0_countMissing_32 : decode cX0_countMissing 32 = .ok (.goto (-28), 3) := by decide +kernel
theorem dX0_countMissing_35 : decode cX0_countMissing 35 = .ok (.iload_n 1, 1) := by decide +kernel
theorem dX0_countMissing_36 : decode cX0_countMissing 36 = .ok (.ireturn, 1) := by decide +kernel
theorem dX0_judge_0 : decode cX0_judge 0 = .ok (.iconst 0, 1) := by decide +kernel
theorem dX0_judge_1 : decode cX0_judge 1 = .ok (.istore_n 1, 1) := by decide +kernel
theorem dX0_judge_2 : decode cX0_judge 2 = .ok (.iload_n 1, 1) := by decide +kernel
theorem dX0_judge_3 : decode cX0_judge 3 = .ok (.bipush 6, 2) := by decide +kernel
theorem dX0_judge_5 : decode cX0_judge 5 = .ok (.if_icmp .ge 47, 3) := by decide +kernel
theorem dX0_judge_8 : decode cX0_judge 8 = .ok (.aload_n 0, 1) := by decide +kernel
theorem dX0_judge_9 : decode cX0_judge 9 = .ok (.getfield 28, 3) := by decide +kernel
theorem dX0_judge_12 : decode cX0_judge 12 = .ok (.iload_n 1, 1) := by decide +kernel
theorem dX0_judge_13 : decode cX0_judge 13 = .ok (.invokevirtual 65, 3) := by decide +kernel
theorem dX0_judge_16 : decode cX0_judge 16 = .ok (.istore_n 2, 1) := by decide +kernel
theorem dX0_judge_17 : decode cX0_judge 17 = .ok (.aload_n 0, 1) := by decide +kernel
theorem dX0_judge_18 : decode cX0_judge 18 = .ok (.getfield 28, 3) := by decide +kernel
theorem dX0_judge_21 : decode cX0_judge 21 = .ok (.iload_n 2, 1) := by decide +kernel
theorem dX0_judge_22 : decode cX0_judge 22 = .ok (.invokevirtual 68, 3) := by decide +kernel
theorem dX0_judge_25 : decode cX0_judge 25 = .ok (.astore_n 3, 1) := by decide +kernel
theorem dX0_judge_26 : decode cX0_judge 26 = .ok (.aload_n 3, 1) := by decide +kernel
theorem dX0_judge_27 : decode cX0_judge 27 = .ok (.ifnull 19, 3) := by decide +kernel
theorem dX0_judge_30 : decode cX0_judge 30 = .ok (.aload_n 0, 1) := by decide +kernel
theorem dX0_judge_31 : decode cX0_judge 31 = .ok (.getfield 12, 3) := by decide +kernel
theorem dX0_judge_34 : decode cX0_judge 34 = .ok (.iload_n 2, 1) := by decide +kernel
theorem dX0_judge_35 : decode cX0_judge 35 = .ok (.aload_n 3, 1) := by decide +kernel
theorem dX0_judge_36 : decode cX0_judge 36 = .ok (.aload_n 0, 1) := by decide +kernel
theorem dX0_judge_37 : decode cX0_judge 37 = .ok (.getfield 12, 3) := by decide +kernel
theorem dX0_judge_40 : decode cX0_judge 40 = .ok (.invokevirtual 72, 3) := by decide +kernel
theorem dX0_judge_43 : decode cX0_judge 43 = .ok (.invokevirtual 55, 3) := by decide +kernel
theorem dX0_judge_46 : decode cX0_judge 46 = .ok (.iinc 1 1, 3) := by decide +kernel
theorem dX0_judge_49 : decode cX0_judge 49 = .ok (.goto (-47), 3) := by decide +kernel
theorem dX0_judge_52 : decode cX0_judge 52 = .ok (.aload_n 0, 1) := by decide +kernel
theorem dX0_judge_53 : decode cX0_judge 53 = .ok (.aload_n 0, 1) := by decide +kernel
theorem dX0_judge_54 : decode cX0_judge 54 = .ok (.invokevirtual 78, 3) := by decide +kernel
theorem dX0_judge_57 : decode cX0_judge 57 = .ok (.iconst (-1), 1) := by decide +kernel
theorem dX0_judge_58 : decode cX0_judge 58 = .ok (.if_icmp .ne 10, 3) := by decide +kernel
theorem dX0_judge_61 : decode cX0_judge 61 = .ok (.aload_n 0, 1) := by decide +kernel
theorem dX0_judge_62 : decode cX0_judge 62 = .ok (.invokevirtual 82, 3) := by decide +kernel
theorem dX0_judge_65 : decode cX0_judge 65 = .ok (.goto 4, 3) := by decide +kernel
theorem dX0_judge_68 : decode cX0_judge 68 = .ok (.iconst 2, 1) := by decide +kernel
theorem dX0_judge_69 : decode cX0_judge 69 = .ok (.putfield 18, 3) := by decide +kernel
theorem dX0_judge_72 : decode cX0_judge 72 = .ok (.return_, 1) := by decide +kernel
theorem dX0_refusingCheck_0 : decode cX0_refusingCheck 0 = .ok (.bipush 6, 2) := by decide +kernel
theorem dX0_refusingCheck_2 : decode cX0_refusingCheck 2 = .ok (.istore_n 1, 1) := by decide +kernel
theorem dX0_refusingCheck_3 : decode cX0_refusingCheck 3 = .ok (.iload_n 1, 1) := by decide +kernel
theorem dX0_refusingCheck_4 : decode cX0_refusingCheck 4 = .ok (.bipush 10, 2) := by decide +kernel
theorem dX0_refusingCheck_6 : decode cX0_refusingCheck 6 = .ok (.if_icmp .ge 35, 3) := by decide +kernel
theorem dX0_refusingCheck_9 : decode cX0_refusingCheck 9 = .ok (.aload_n 0, 1) := by decide +kernel
theorem dX0_refusingCheck_10 : decode cX0_refusingCheck 10 = .ok (.getfield 28, 3) := by decide +kernel
theorem dX0_refusingCheck_13 : decode cX0_refusingCheck 13 = .ok (.iload_n 1, 1) := by decide +kernel
theorem dX0_refusingCheck_14 : decode cX0_refusingCheck 14 = .ok (.invokevirtual 68, 3) := by decide +kernel
theorem dX0_refusingCheck_17 : decode cX0_refusingCheck 17 = .ok (.astore_n 2, 1) := by decide +kernel
theorem dX0_refusingCheck_18 : decode cX0_refusingCheck 18 = .ok (.aload_n 2, 1) := by decide +kernel
theorem dX0_refusingCheck_19 : decode cX0_refusingCheck 19 = .ok (.ifnull 16, 3) := by decide +kernel
theorem dX0_refusingCheck_22 : decode cX0_refusingCheck 22 = .ok (.aload_n 2, 1) := by decide +kernel
theorem dX0_refusingCheck_23 : decode cX0_refusingCheck 23 = .ok (.aload_n 0, 1) := by decide +kernel
theorem dX0_refusingCheck_24 : decode cX0_refusingCheck 24 = .ok (.getfield 12, 3) := by decide +kernel
theorem dX0_refusingCheck_27 : decode cX0_refusingCheck 27 = .ok (.invokevirtual 72, 3) := by decide +kernel
theorem dX0_refusingCheck_30 : decode cX0_refusingCheck 30 = .ok (.ifCond .ne 5, 3) := by decide +kernel
theorem dX0_refusingCheck_33 : decode cX0_refusingCheck 33 = .ok (.iload_n 1, 1) := by decide +kernel
theorem dX0_refusingCheck_34 : decode cX0_refusingCheck 34 = .ok (.ireturn, 1) := by decide +kernel
theorem dX0_refusingCheck_35 : decode cX0_refusingCheck 35 = .ok (.iinc 1 1, 3) := by decide +kernel
theorem dX0_refusingCheck_38 : decode cX0_refusingCheck 38 = .ok (.goto (-35), 3) := by decide +kernel
theorem dX0_refusingCheck_41 : decode cX0_refusingCheck 41 = .ok (.iconst (-1), 1) := by decide +kernel
theorem dX0_refusingCheck_42 : decode cX0_refusingCheck 42 = .ok (.ireturn, 1) := by decide +kernel
theorem dX0_stateByDoubts_0 : decode cX0_stateByDoubts 0 = .ok (.aload_n 0, 1) := by decide +kernel
theorem dX0_stateByDoubts_1 : decode cX0_stateByDoubts 1 = .ok (.getfield 22, 3) := by decide +kernel
theorem dX0_stateByDoubts_4 : decode cX0_stateByDoubts 4 = .ok (.ifCond .ne 7, 3) := by decide +kernel
theorem dX0_stateByDoubts_7 : decode cX0_stateByDoubts 7 = .ok (.iconst 1, 1) := by decide +kernel
theorem dX0_stateByDoubts_8 : decode cX0_stateByDoubts 8 = .ok (.goto 4, 3) := by decide +kernel
theorem dX0_stateByDoubts_11 : decode cX0_stateByDoubts 11 = .ok (.iconst 3, 1) := by decide +kernel
theorem dX0_stateByDoubts_12 : decode cX0_stateByDoubts 12 = .ok (.ireturn, 1) := by decide +kernel
theorem dX0_addDoubts_0 : decode cX0_addDoubts 0 = .ok (.aload_n 0, 1) := by decide +kernel
theorem dX0_addDoubts_1 : decode cX0_addDoubts 1 = .ok (.dup, 1) := by decide +kernel
theorem dX0_addDoubts_2 : decode cX0_addDoubts 2 = .ok (.getfield 22, 3) := by decide +kernel
theorem dX0_addDoubts_5 : decode cX0_addDoubts 5 = .ok (.iload_n 1, 1) := by decide +kernel
theorem dX0_addDoubts_6 : decode cX0_addDoubts 6 = .ok (.ior, 1) := by decide +kernel
theorem dX0_addDoubts_7 : decode cX0_addDoubts 7 = .ok (.putfield 22, 3) := by decide +kernel
theorem dX0_addDoubts_10 : decode cX0_addDoubts 10 = .ok (.aload_n 0, 1) := by decide +kernel
theorem dX0_addDoubts_11 : decode cX0_addDoubts 11 = .ok (.aload_n 0, 1) := by decide +kernel
theorem dX0_addDoubts_12 : decode cX0_addDoubts 12 = .ok (.invokevirtual 82, 3) := by decide +kernel
theorem dX0_addDoubts_15 : decode cX0_addDoubts 15 = .ok (.putfield 18, 3) := by decide +kernel
theorem dX0_addDoubts_18 : decode cX0_addDoubts 18 = .ok (.return_, 1) := by decide +kernel
theorem dX0_release_0 : decode cX0_release 0 = .ok (.aload_n 0, 1) := by decide +kernel
theorem dX0_release_1 : decode cX0_release 1 = .ok (.dup, 1) := by decide +kernel
theorem dX0_release_2 : decode cX0_release 2 = .ok (.getfield 22, 3) := by decide +kernel
theorem dX0_release_5 : decode cX0_release 5 = .ok (.iconst 1, 1) := by decide +kernel
theorem dX0_release_6 : decode cX0_release 6 = .ok (.iload_n 1, 1) := by decide +kernel
theorem dX0_release_7 : decode cX0_release 7 = .ok (.ishl, 1) := by decide +kernel
theorem dX0_release_8 : decode cX0_release 8 = .ok (.iconst (-1), 1) := by decide +kernel
theorem dX0_release_9 : decode cX0_release 9 = .ok (.ixor, 1) := by decide +kernel
theorem dX0_release_10 : decode cX0_release 10 = .ok (.iand, 1) := by decide +kernel
theorem dX0_release_11 : decode cX0_release 11 = .ok (.putfield 22, 3) := by decide +kernel
theorem dX0_release_14 : decode cX0_release 14 = .ok (.aload_n 0, 1) := by decide +kernel
theorem dX0_release_15 : decode cX0_release 15 = .ok (.aload_n 0, 1) := by decide +kernel
theorem dX0_release_16 : decode cX0_release 16 = .ok (.invokevirtual 82, 3) := by decide +kernel
theorem dX0_release_19 : decode cX0_release 19 = .ok (.putfield 18, 3) := by decide +kernel
theorem dX0_release_22 : decode cX0_release 22 = .ok (.return_, 1) := by decide +kernel
theorem dX0_strike_0 : decode cX0_strike 0 = .ok (.aload_n 0, 1) := by decide +kernel
theorem dX0_strike_1 : decode cX0_strike 1 = .ok (.iconst 4, 1) := by decide +kernel
theorem dX0_strike_2 : decode cX0_strike 2 = .ok (.putfield 18, 3) := by decide +kernel
theorem dX0_strike_5 : decode cX0_strike 5 = .ok (.return_, 1) := by decide +kernel
theorem dX0_meetVersion_0 : decode cX0_meetVersion 0 = .ok (.aload_n 0, 1) := by decide +kernel
theorem dX0_meetVersion_1 : decode cX0_meetVersion 1 = .ok (.invokevirtual 85, 3) := by decide +kernel
theorem dX0_meetVersion_4 : decode cX0_meetVersion 4 = .ok (.ifCond .eq 16, 3) := by decide +kernel
theorem dX0_meetVersion_7 : decode cX0_meetVersion 7 = .ok (.aload_n 0, 1) := by decide +kernel
theorem dX0_meetVersion_8 : decode cX0_meetVersion 8 = .ok (.aload_n 0, 1) := by decide +kernel
theorem dX0_meetVersion_9 : decode cX0_meetVersion 9 = .ok (.getfield 28, 3) := by decide +kernel
theorem dX0_meetVersion_12 : decode cX0_meetVersion 12 = .ok (.aload_n 1, 1) := by decide +kernel
theorem dX0_meetVersion_13 : decode cX0_meetVersion 13 = .ok (.aload_n 2, 1) := by decide +kernel
theorem dX0_meetVersion_14 : decode cX0_meetVersion 14 = .ok (.invokevirtual 89, 3) := by decide +kernel
theorem dX0_meetVersion_17 : decode cX0_meetVersion 17 = .ok (.invokevirtual 93, 3) := by decide +kernel
theorem dX0_meetVersion_20 : decode cX0_meetVersion 20 = .ok (.return_, 1) := by decide +kernel
theorem dX1_init_0 : decode cX1_init 0 = .ok (.aload_n 0, 1) := by decide +kernel
theorem dX1_init_1 : decode cX1_init 1 = .ok (.invokespecial 3, 3) := by decide +kernel
theorem dX1_init_4 : decode cX1_init 4 = .ok (.aload_n 0, 1) := by decide +kernel
theorem dX1_init_5 : decode cX1_init 5 = .ok (.bipush 10, 2) := by decide +kernel
theorem dX1_init_7 : decode cX1_init 7 = .ok (.anewarray 9, 3) := by decide +kernel
theorem dX1_init_10 : decode cX1_init 10 = .ok (.putfield 11, 3) := by decide +kernel
theorem dX1_init_13 : decode cX1_init 13 = .ok (.aload_n 0, 1) := by decide +kernel
theorem dX1_init_14 : decode cX1_init 14 = .ok (.bipush 6, 2) := by decide +kernel
theorem dX1_init_16 : decode cX1_init 16 = .ok (.newarray .int, 2) := by decide +kernel
theorem dX1_init_18 : decode cX1_init 18 = .ok (.putfield 17, 3) := by decide +kernel
theorem dX1_init_21 : decode cX1_init 21 = .ok (.aload_n 0, 1) := by decide +kernel
theorem dX1_init_22 : decode cX1_init 22 = .ok (.new 21, 3) := by decide +kernel
theorem dX1_init_25 : decode cX1_init 25 = .ok (.dup, 1) := by decide +kernel
theorem dX1_init_26 : decode cX1_init 26 = .ok (.bipush 6, 2) := by decide +kernel
theorem dX1_init_28 : decode cX1_init 28 = .ok (.newarray .int, 2) := by decide +kernel
theorem dX1_init_30 : decode cX1_init 30 = .ok (.invokespecial 23, 3) := by decide +kernel
theorem dX1_init_33 : decode cX1_init 33 = .ok (.putfield 26, 3) := by decide +kernel
theorem dX1_init_36 : decode cX1_init 36 = .ok (.return_, 1) := by decide +kernel
theorem dX1_init__0 : decode cX1_init_ 0 = .ok (.aload_n 0, 1) := by decide +kernel
theorem dX1_init__1 : decode cX1_init_ 1 = .ok (.invokespecial 3, 3) := by decide +kernel
theorem dX1_init__4 : decode cX1_init_ 4 = .ok (.aload_n 0, 1) := by decide +kernel
theorem dX1_init__5 : decode cX1_init_ 5 = .ok (.bipush 10, 2) := by decide +kernel
theorem dX1_init__7 : decode cX1_init_ 7 = .ok (.anewarray 9, 3) := by decide +kernel
theorem dX1_init__10 : decode cX1_init_ 10 = .ok (.putfield 11, 3) := by decide +kernel
theorem dX1_init__13 : decode cX1_init_ 13 = .ok (.aload_n 0, 1) := by decide +kernel
theorem dX1_init__14 : decode cX1_init_ 14 = .ok (.bipush 6, 2) := by decide +kernel
theorem dX1_init__16 : decode cX1_init_ 16 = .ok (.newarray .int, 2) := by decide +kernel
theorem dX1_init__18 : decode cX1_init_ 18 = .ok (.putfield 17, 3) := by decide +kernel
theorem dX1_init__21 : decode cX1_init_ 21 = .ok (.aload_n 0, 1) := by decide +kernel
theorem dX1_init__22 : decode cX1_init_ 22 = .ok (.aload_n 1, 1) := by decide +kernel
theorem dX1_init__23 : decode cX1_init_ 23 = .ok (.putfield 26, 3) := by decide +kernel
theorem dX1_init__26 : decode cX1_init_ 26 = .ok (.return_, 1) := by decide +kernel
theorem dX1_typeOfField_0 : decode cX1_typeOfField 0 = .ok (.aload_n 0, 1) := by decide +kernel
theorem dX1_typeOfField_1 : decode cX1_typeOfField 1 = .ok (.getfield 26, 3) := by decide +kernel
theorem dX1_typeOfField_4 : decode cX1_typeOfField 4 = .ok (.iload_n 1, 1) := by decide +kernel
theorem dX1_typeOfField_5 : decode cX1_typeOfField 5 = .ok (.invokevirtual 30, 3) := by decide +kernel
theorem dX1_typeOfField_8 : decode cX1_typeOfField 8 = .ok (.ireturn, 1) := by decide +kernel
theorem dX1_giveType_0 : decode cX1_giveType 0 = .ok (.aload_n 0, 1) := by decide +kernel
theorem dX1_giveType_1 : decode cX1_giveType 1 = .ok (.getfield 26, 3) := by decide +kernel
theorem dX1_giveType_4 : decode cX1_giveType 4 = .ok (.iload_n 1, 1) := by decide +kernel
theorem dX1_giveType_5 : decode cX1_giveType 5 = .ok (.iload_n 2, 1) := by decide +kernel
theorem dX1_giveType_6 : decode cX1_giveType 6 = .ok (.invokevirtual 34, 3) := by decide +kernel
theorem dX1_giveType_9 : decode cX1_giveType 9 = .ok (.return_, 1) := by decide +kernel
theorem dX1_formulaAt_0 : decode cX1_formulaAt 0 = .ok (.iload_n 1, 1) := by decide +kernel
theorem dX1_formulaAt_1 : decode cX1_formulaAt 1 = .ok (.ifCond .lt 21, 3) := by decide +kernel
theorem dX1_formulaAt_4 : decode cX1_formulaAt 4 = .ok (.iload_n 1, 1) := by decide +kernel
theorem dX1_formulaAt_5 : decode cX1_formulaAt 5 = .ok (.aload_n 0, 1) := by decide +kernel
theorem dX1_formulaAt_6 : decode cX1_formulaAt 6 = .ok (.getfield 11, 3) := by decide +kernel
theorem dX1_formulaAt_9 : decode cX1_formulaAt 9 = .ok (.arraylength, 1) := by decide +kernel
theorem dX1_formulaAt_10 : decode cX1_formulaAt 10 = .ok (.if_icmp .ge 12, 3) := by decide +kernel
theorem dX1_formulaAt_13 : decode cX1_formulaAt 13 = .ok (.aload_n 0, 1) := by decide +kernel
theorem dX1_formulaAt_14 : decode cX1_formulaAt 14 = .ok (.getfield 11, 3) := by decide +kernel
theorem dX1_formulaAt_17 : decode cX1_formulaAt 17 = .ok (.iload_n 1, 1) := by decide +kernel
theorem dX1_formulaAt_18 : decode cX1_formulaAt 18 = .ok (.aaload, 1) := by decide +kernel
theorem dX1_formulaAt_19 : decode cX1_formulaAt 19 = .ok (.goto 4, 3) := by decide +kernel
theorem dX1_formulaAt_22 : decode cX1_formulaAt 22 = .ok (.aconst_null, 1) := by decide +kernel
theorem dX1_formulaAt_23 : decode cX1_formulaAt 23 = .ok (.areturn, 1) := by decide +kernel
theorem dX1_giveFormula_0 : decode cX1_giveFormula 0 = .ok (.iload_n 1, 1) := by decide +kernel
theorem dX1_giveFormula_1 : decode cX1_giveFormula 1 = .ok (.ifCond .lt 19, 3) := by decide +kernel
theorem dX1_giveFormula_4 : decode cX1_giveFormula 4 = .ok (.iload_n 1, 1) := by decide +kernel
theorem dX1_giveFormula_5 : decode cX1_giveFormula 5 = .ok (.aload_n 0, 1) := by decide +kernel
theorem dX1_giveFormula_6 : decode cX1_giveFormula 6 = .ok (.getfield 11, 3) := by decide +kernel
theorem dX1_giveFormula_9 : decode cX1_giveFormula 9 = .ok (.arraylength, 1) := by decide +kernel
theorem dX1_giveFormula_10 : decode cX1_giveFormula 10 = .ok (.if_icmp .ge 10, 3) := by decide +kernel
theorem dX1_giveFormula_13 : decode cX1_giveFormula 13 = .ok (.aload_n 0, 1) := by decide +kernel
theorem dX1_giveFormula_14 : decode cX1_giveFormula 14 = .ok (.getfield 11, 3) := by decide +kernel
theorem dX1_giveFormula_17 : decode cX1_giveFormula 17 = .ok (.iload_n 1, 1) := by decide +kernel
theorem dX1_giveFormula_18 : decode cX1_giveFormula 18 = .ok (.aload_n 2, 1) := by decide +kernel
theorem dX1_giveFormula_19 : decode cX1_giveFormula 19 = .ok (.aastore, 1) := by decide +kernel
theorem dX1_giveFormula_20 : decode cX1_giveFormula 20 = .ok (.return_, 1) := by decide +kernel
theorem dX1_isComputed_0 : decode cX1_isComputed 0 = .ok (.iload_n 1, 1) := by decide +kernel
theorem dX1_isComputed_1 : decode cX1_isComputed 1 = .ok (.bipush 6, 2) := by decide +kernel
theorem dX1_isComputed_3 : decode cX1_isComputed 3 = .ok (.if_icmp .ge 15, 3) := by decide +kernel
theorem dX1_isComputed_6 : decode cX1_isComputed 6 = .ok (.aload_n 0, 1) := by decide +kernel
theorem dX1_isComputed_7 : decode cX1_isComputed 7 = .ok (.iload_n 1, 1) := by decide +kernel
theorem dX1_isComputed_8 : decode cX1_isComputed 8 = .ok (.invokevirtual 38, 3) := by decide +kernel
theorem dX1_isComputed_11 : decode cX1_isComputed 11 = .ok (.ifnull 7, 3) := by decide +kernel
theorem dX1_isComputed_14 : decode cX1_isComputed 14 = .ok (.iconst 1, 1) := by decide +kernel
theorem dX1_isComputed_15 : decode cX1_isComputed 15 = .ok (.goto 4, 3) := by decide +kernel
theorem dX1_isComputed_18 : decode cX1_isComputed 18 = .ok (.iconst 0, 1) := by decide +kernel
theorem dX1_isComputed_19 : decode cX1_isComputed 19 = .ok (.ireturn, 1) := by decide +kernel
theorem dX1_typeOfFormula_0 : decode cX1_typeOfFormula 0 = .ok (.aload_n 1, 1) := by decide +kernel
theorem dX1_typeOfFormula_1 : decode cX1_typeOfFormula 1 = .ok (.aload_n 0, 1) := by decide +kernel
theorem dX1_typeOfFormula_2 : decode cX1_typeOfFormula 2 = .ok (.getfield 26, 3) := by decide +kernel
theorem dX1_typeOfFormula_5 : decode cX1_typeOfFormula 5 = .ok (.invokevirtual 42, 3) := by decide +kernel
theorem dX1_typeOfFormula_8 : decode cX1_typeOfFormula 8 = .ok (.ireturn, 1) := by decide +kernel
theorem dX1_countFormulas_0 : decode cX1_countFormulas 0 = .ok (.iconst 0, 1) := by decide +kernel
theorem dX1_countFormulas_1 : decode cX1_countFormulas 1 = .ok (.istore_n 1, 1) := by decide +kernel
theorem dX1_countFormulas_2 : decode cX1_countFormulas 2 = .ok (.aload_n 0, 1) := by decide +kernel
theorem dX1_countFormulas_3 : decode cX1_countFormulas 3 = .ok (.getfield 11, 3) := by decide +kernel
theorem dX1_countFormulas_6 : decode cX1_countFormulas 6 = .ok (.astore_n 2, 1) := by decide +kernel
theorem dX1_countFormulas_7 : decode cX1_countFormulas 7 = .ok (.aload_n 2, 1) := by decide +kernel
theorem dX1_countFormulas_8 : decode cX1_countFormulas 8 = .ok (.arraylength, 1) := by decide +kernel
theorem dX1_countFormulas_9 : decode cX1_countFormulas 9 = .ok (.istore_n 3, 1) := by decide +kernel
theorem dX1_countFormulas_10 : decode cX1_countFormulas 10 = .ok (.iconst 0, 1) := by decide +kernel
theorem dX1_countFormulas_11 : decode cX1_countFormulas 11 = .ok (.istore 4, 2) := by decide +kernel
theorem dX1_countFormulas_13 : decode cX1_countFormulas 13 = .ok (.iload 4, 2) := by decide +kernel
theorem dX1_countFormulas_15 : decode cX1_countFormulas 15 = .ok (.iload_n 3, 1) := by decide +kernel
theorem dX1_countFormulas_16 : decode cX1_countFormulas 16 = .ok (.if_icmp .ge 23, 3) := by decide +kernel
theorem dX1_countFormulas_19 : decode cX1_countFormulas 19 = .ok (.aload_n 2, 1) := by decide +kernel
theorem dX1_countFormulas_20 : decode cX1_countFormulas 20 = .ok (.iload 4, 2) := by decide +kernel
theorem dX1_countFormulas_22 : decode cX1_countFormulas 22 = .ok (.aaload, 1) := by decide +kernel
theorem dX1_countFormulas_23 : decode cX1_countFormulas 23 = .ok (.astore 5, 2) := by decide +kernel
theorem dX1_countFormulas_25 : decode cX1_countFormulas 25 = .ok (.aload 5, 2) := by decide +kernel
theorem dX1_countFormulas_27 : decode cX1_countFormulas 27 = .ok (.ifnull 6, 3) := by decide +kernel
theorem dX1_countFormulas_30 : decode cX1_countFormulas 30 = .ok (.iinc 1 1, 3) := by decide +kernel
theorem dX1_countFormulas_33 : decode cX1_countFormulas 33 = .ok (.iinc 4 1, 3) := by decide +kernel
theorem dX1_countFormulas_36 : decode cX1_countFormulas 36 = .ok (.goto (-23), 3) := by decide +kernel
theorem dX1_countFormulas_39 : decode cX1_countFormulas 39 = .ok (.iload_n 1, 1) := by decide +kernel
theorem dX1_countFormulas_40 : decode cX1_countFormulas 40 = .ok (.ireturn, 1) := by decide +kernel
theorem dX1_wouldBreak_0 : decode cX1_wouldBreak 0 = .ok (.iload_n 1, 1) := by decide +kernel
theorem dX1_wouldBreak_1 : decode cX1_wouldBreak 1 = .ok (.bipush 6, 2) := by decide +kernel
theorem dX1_wouldBreak_3 : decode cX1_wouldBreak 3 = .ok (.if_icmp .ge 14, 3) := by decide +kernel
theorem dX1_wouldBreak_6 : decode cX1_wouldBreak 6 = .ok (.aload_n 0, 1) := by decide +kernel
theorem dX1_wouldBreak_7 : decode cX1_wouldBreak 7 = .ok (.getfield 26, 3) := by decide +kernel
theorem dX1_wouldBreak_10 : decode cX1_wouldBreak 10 = .ok (.iload_n 1, 1) := by decide +kernel
theorem dX1_wouldBreak_11 : decode cX1_wouldBreak 11 = .ok (.invokevirtual 30, 3) := by decide +kernel
theorem dX1_wouldBreak_14 : decode cX1_wouldBreak 14 = .ok (.goto 4, 3) := by decide +kernel
theorem dX1_wouldBreak_17 : decode cX1_wouldBreak 17 = .ok (.iconst 2, 1) := by decide +kernel
theorem dX1_wouldBreak_18 : decode cX1_wouldBreak 18 = .ok (.istore_n 3, 1) := by decide +kernel
theorem dX1_wouldBreak_19 : decode cX1_wouldBreak 19 = .ok (.aload_n 0, 1) := by decide +kernel
theorem dX1_wouldBreak_20 : decode cX1_wouldBreak 20 = .ok (.aload_n 2, 1) := by decide +kernel
theorem dX1_wouldBreak_21 : decode cX1_wouldBreak 21 = .ok (.invokevirtual 46, 3) := by decide +kernel
theorem dX1_wouldBreak_24 : decode cX1_wouldBreak 24 = .ok (.iload_n 3, 1) := by decide +kernel
theorem dX1_wouldBreak_25 : decode cX1_wouldBreak 25 = .ok (.if_icmp .eq 7, 3) := by decide +kernel
theorem dX1_wouldBreak_28 : decode cX1_wouldBreak 28 = .ok (.iconst 1, 1) := by decide +kernel
theorem dX1_wouldBreak_29 : decode cX1_wouldBreak 29 = .ok (.goto 4, 3) := by decide +kernel
theorem dX1_wouldBreak_32 : decode cX1_wouldBreak 32 = .ok (.iconst 0, 1) := by decide +kernel
theorem dX1_wouldBreak_33 : decode cX1_wouldBreak 33 = .ok (.ireturn, 1) := by decide +kernel
theorem dX1_hasBroken_0 : decode cX1_hasBroken 0 = .ok (.aload_n 0, 1) := by decide +kernel
theorem dX1_hasBroken_1 : decode cX1_hasBroken 1 = .ok (.iload_n 1, 1) := by decide +kernel
theorem dX1_hasBroken_2 : decode cX1_hasBroken 2 = .ok (.invokevirtual 38, 3) := by decide +kernel
theorem dX1_hasBroken_5 : decode cX1_hasBroken 5 = .ok (.astore_n 2, 1) := by decide +kernel
theorem dX1_hasBroken_6 : decode cX1_hasBroken 6 = .ok (.aload_n 2, 1) := by decide +kernel
theorem dX1_hasBroken_7 : decode cX1_hasBroken 7 = .ok (.ifnull 16, 3) := by decide +kernel
theorem dX1_hasBroken_10 : decode cX1_hasBroken 10 = .ok (.aload_n 0, 1) := by decide +kernel
theorem dX1_hasBroken_11 : decode cX1_hasBroken 11 = .ok (.iload_n 1, 1) := by decide +kernel
theorem dX1_hasBroken_12 : decode cX1_hasBroken 12 = .ok (.aload_n 2, 1) := by decide +kernel
theorem dX1_hasBroken_13 : decode cX1_hasBroken 13 = .ok (.invokevirtual 50, 3) := by decide +kernel
theorem dX1_hasBroken_16 : decode cX1_hasBroken 16 = .ok (.ifCond .eq 7, 3) := by decide +kernel
theorem dX1_hasBroken_19 : decode cX1_hasBroken 19 = .ok (.iconst 1, 1) := by decide +kernel
theorem dX1_hasBroken_20 : decode cX1_hasBroken 20 = .ok (.goto 4, 3) := by decide +kernel
theorem dX1_hasBroken_23 : decode cX1_hasBroken 23 = .ok (.iconst 0, 1) := by decide +kernel
theorem dX1_hasBroken_24 : decode cX1_hasBroken 24 = .ok (.ireturn, 1) := by decide +kernel
theorem dX1_countBroken_0 : decode cX1_countBroken 0 = .ok (.iconst 0, 1) := by decide +kernel
theorem dX1_countBroken_1 : decode cX1_countBroken 1 = .ok (.istore_n 1, 1) := by decide +kernel
theorem dX1_countBroken_2 : decode cX1_countBroken 2 = .ok (.iconst 0, 1) := by decide +kernel
theorem dX1_countBroken_3 : decode cX1_countBroken 3 = .ok (.istore_n 2, 1) := by decide +kernel
theorem dX1_countBroken_4 : decode cX1_countBroken 4 = .ok (.iload_n 2, 1) := by decide +kernel
theorem dX1_countBroken_5 : decode cX1_countBroken 5 = .ok (.bipush 10, 2) := by decide +kernel
theorem dX1_countBroken_7 : decode cX1_countBroken 7 = .ok (.if_icmp .ge 20, 3) := by decide +kernel
theorem dX1_countBroken_10 : decode cX1_countBroken 10 = .ok (.aload_n 0, 1) := by decide +kernel
theorem dX1_countBroken_11 : decode cX1_countBroken 11 = .ok (.iload_n 2, 1) := by decide +kernel
theorem dX1_countBroken_12 : decode cX1_countBroken 12 = .ok (.invokevirtual 54, 3) := by decide +kernel
theorem dX1_countBroken_15 : decode cX1_countBroken 15 = .ok (.ifCond .eq 6, 3) := by decide +kernel
theorem dX1_countBroken_18 : decode cX1_countBroken 18 = .ok (.iinc 1 1, 3) := by decide +kernel
theorem dX1_countBroken_21 : decode cX1_countBroken 21 = .ok (.iinc 2 1, 3) := by decide +kernel
theorem dX1_countBroken_24 : decode cX1_countBroken 24 = .ok (.goto (-20), 3) := by decide +kernel
theorem dX1_countBroken_27 : decode cX1_countBroken 27 = .ok (.iload_n 1, 1) := by decide +kernel
theorem dX1_countBroken_28 : decode cX1_countBroken 28 = .ok (.ireturn, 1) := by decide +kernel
theorem dX1_wouldCircle_0 : decode cX1_wouldCircle 0 = .ok (.iload_n 1, 1) := by decide +kernel
theorem dX1_wouldCircle_1 : decode cX1_wouldCircle 1 = .ok (.bipush 6, 2) := by decide +kernel
theorem dX1_wouldCircle_3 : decode cX1_wouldCircle 3 = .ok (.if_icmp .lt 5, 3) := by decide +kernel
theorem dX1_wouldCircle_6 : decode cX1_wouldCircle 6 = .ok (.iconst 0, 1) := by decide +kernel
theorem dX1_wouldCircle_7 : decode cX1_wouldCircle 7 = .ok (.ireturn, 1) := by decide +kernel
theorem dX1_wouldCircle_8 : decode cX1_wouldCircle 8 = .ok (.aload_n 2, 1) := by decide +kernel
theorem dX1_wouldCircle_9 : decode cX1_wouldCircle 9 = .ok (.invokevirtual 58, 3) := by decide +kernel
theorem dX1_wouldCircle_12 : decode cX1_wouldCircle 12 = .ok (.istore_n 3, 1) := by decide +kernel
theorem dX1_wouldCircle_13 : decode cX1_wouldCircle 13 = .ok (.iconst 0, 1) := by decide +kernel
theorem dX1_wouldCircle_14 : decode cX1_wouldCircle 14 = .ok (.istore 4, 2) := by decide +kernel
theorem dX1_wouldCircle_16 : decode cX1_wouldCircle 16 = .ok (.iload 4, 2) := by decide +kernel
theorem dX1_wouldCircle_18 : decode cX1_wouldCircle 18 = .ok (.bipush 6, 2) := by decide +kernel
theorem dX1_wouldCircle_20 : decode cX1_wouldCircle 20 = .ok (.if_icmp .ge 49, 3) := by decide +kernel
theorem dX1_wouldCircle_23 : decode cX1_wouldCircle 23 = .ok (.iconst 0, 1) := by decide +kernel
theorem dX1_wouldCircle_24 : decode cX1_wouldCircle 24 = .ok (.istore 5, 2) := by decide +kernel
theorem dX1_wouldCircle_26 : decode cX1_wouldCircle 26 = .ok (.iload 5, 2) := by decide +kernel
theorem dX1_wouldCircle_28 : decode cX1_wouldCircle 28 = .ok (.bipush 6, 2) := by decide +kernel
theorem dX1_wouldCircle_30 : decode cX1_wouldCircle 30 = .ok (.if_icmp .ge 33, 3) := by decide +kernel
theorem dX1_wouldCircle_33 : decode cX1_wouldCircle 33 = .ok (.iload 5, 2) := by decide +kernel
theorem dX1_wouldCircle_35 : decode cX1_wouldCircle 35 = .ok (.iload_n 1, 1) := by decide +kernel
theorem dX1_wouldCircle_36 : decode cX1_wouldCircle 36 = .ok (.if_icmp .eq 21, 3) := by decide +kernel
theorem dX1_wouldCircle_39 : decode cX1_wouldCircle 39 = .ok (.iload_n 3, 1) := by decide +kernel
theorem dX1_wouldCircle_40 : decode cX1_wouldCircle 40 = .ok (.iload 5, 2) := by decide +kernel
theorem dX1_wouldCircle_42 : decode cX1_wouldCircle 42 = .ok (.invokestatic 62, 3) := by decide +kernel
theorem dX1_wouldCircle_45 : decode cX1_wouldCircle 45 = .ok (.ifCond .eq 12, 3) := by decide +kernel
theorem dX1_wouldCircle_48 : decode cX1_wouldCircle 48 = .ok (.iload_n 3, 1) := by decide +kernel
theorem dX1_wouldCircle_49 : decode cX1_wouldCircle 49 = .ok (.aload_n 0, 1) := by decide +kernel
theorem dX1_wouldCircle_50 : decode cX1_wouldCircle 50 = .ok (.iload 5, 2) := by decide +kernel
theorem dX1_wouldCircle_52 : decode cX1_wouldCircle 52 = .ok (.invokevirtual 66, 3) := by decide +kernel
theorem dX1_wouldCircle_55 : decode cX1_wouldCircle 55 = .ok (.ior, 1) := by decide +kernel
theorem dX1_wouldCircle_56 : decode cX1_wouldCircle 56 = .ok (.istore_n 3, 1) := by decide +kernel
theorem dX1_wouldCircle_57 : decode cX1_wouldCircle 57 = .ok (.iinc 5 1, 3) := by decide +kernel
theorem dX1_wouldCircle_60 : decode cX1_wouldCircle 60 = .ok (.goto (-34), 3) := by decide +kernel
theorem dX1_wouldCircle_63 : decode cX1_wouldCircle 63 = .ok (.iinc 4 1, 3) := by decide +kernel
theorem dX1_wouldCircle_66 : decode cX1_wouldCircle 66 = .ok (.goto (-50), 3) := by decide +kernel
theorem dX1_wouldCircle_69 : decode cX1_wouldCircle 69 = .ok (.iload_n 3, 1) := by decide +kernel
theorem dX1_wouldCircle_70 : decode cX1_wouldCircle 70 = .ok (.iload_n 1, 1) := by decide +kernel
theorem dX1_wouldCircle_71 : decode cX1_wouldCircle 71 = .ok (.invokestatic 62, 3) := by decide +kernel
theorem dX1_wouldCircle_74 : decode cX1_wouldCircle 74 = .ok (.ireturn, 1) := by decide +kernel
theorem dX1_lettersAt_0 : decode cX1_lettersAt 0 = .ok (.aload_n 0, 1) := by decide +kernel
theorem dX1_lettersAt_1 : decode cX1_lettersAt 1 = .ok (.iload_n 1, 1) := by decide +kernel
theorem dX1_lettersAt_2 : decode cX1_lettersAt 2 = .ok (.invokevirtual 38, 3) := by decide +kernel
theorem dX1_lettersAt_5 : decode cX1_lettersAt 5 = .ok (.astore_n 2, 1) := by decide +kernel
theorem dX1_lettersAt_6 : decode cX1_lettersAt 6 = .ok (.aload_n 2, 1) := by decide +kernel
theorem dX1_lettersAt_7 : decode cX1_lettersAt 7 = .ok (.ifnonnull 7, 3) := by decide +kernel
theorem dX1_lettersAt_10 : decode cX1_lettersAt 10 = .ok (.iconst 0, 1) := by decide +kernel
theorem dX1_lettersAt_11 : decode cX1_lettersAt 11 = .ok (.goto 7, 3) := by decide +kernel
theorem dX1_lettersAt_14 : decode cX1_lettersAt 14 = .ok (.aload_n 2, 1) := by decide +kernel
theorem dX1_lettersAt_15 : decode cX1_lettersAt 15 = .ok (.invokevirtual 58, 3) := by decide +kernel
theorem dX1_lettersAt_18 : decode cX1_lettersAt 18 = .ok (.ireturn, 1) := by decide +kernel
theorem dX1_takeBroken_0 : decode cX1_takeBroken 0 = .ok (.bipush 10, 2) := by decide +kernel
theorem dX1_takeBroken_2 : decode cX1_takeBroken 2 = .ok (.anewarray 9, 3) := by decide +kernel
theorem dX1_takeBroken_5 : decode cX1_takeBroken 5 = .ok (.astore_n 1, 1) := by decide +kernel
theorem dX1_takeBroken_6 : decode cX1_takeBroken 6 = .ok (.iconst 0, 1) := by decide +kernel
theorem dX1_takeBroken_7 : decode cX1_takeBroken 7 = .ok (.istore_n 2, 1) := by decide +kernel
theorem dX1_takeBroken_8 : decode cX1_takeBroken 8 = .ok (.iload_n 2, 1) := by decide +kernel
theorem dX1_takeBroken_9 : decode cX1_takeBroken 9 = .ok (.bipush 10, 2) := by decide +kernel
theorem dX1_takeBroken_11 : decode cX1_takeBroken 11 = .ok (.if_icmp .ge 31, 3) := by decide +kernel
theorem dX1_takeBroken_14 : decode cX1_takeBroken 14 = .ok (.aload_n 0, 1) := by decide +kernel
theorem dX1_takeBroken_15 : decode cX1_takeBroken 15 = .ok (.iload_n 2, 1) := by decide +kernel
theorem dX1_takeBroken_16 : decode cX1_takeBroken 16 = .ok (.invokevirtual 54, 3) := by decide +kernel
theorem dX1_takeBroken_19 : decode cX1_takeBroken 19 = .ok (.ifCond .eq 17, 3) := by decide +kernel
theorem dX1_takeBroken_22 : decode cX1_takeBroken 22 = .ok (.aload_n 1, 1) := by decide +kernel
theorem dX1_takeBroken_23 : decode cX1_takeBroken 23 = .ok (.iload_n 2, 1) := by decide +kernel
theorem dX1_takeBroken_24 : decode cX1_takeBroken 24 = .ok (.aload_n 0, 1) := by decide +kernel
theorem dX1_takeBroken_25 : decode cX1_takeBroken 25 = .ok (.iload_n 2, 1) := by decide +kernel
theorem dX1_takeBroken_26 : decode cX1_takeBroken 26 = .ok (.invokevirtual 38, 3) := by decide +kernel
theorem dX1_takeBroken_29 : decode cX1_takeBroken 29 = .ok (.aastore, 1) := by decide +kernel
theorem dX1_takeBroken_30 : decode cX1_takeBroken 30 = .ok (.aload_n 0, 1) := by decide +kernel
theorem dX1_takeBroken_31 : decode cX1_takeBroken 31 = .ok (.iload_n 2, 1) := by decide +kernel
theorem dX1_takeBroken_32 : decode cX1_takeBroken 32 = .ok (.aconst_null, 1) := by decide +kernel
theorem dX1_takeBroken_33 : decode cX1_takeBroken 33 = .ok (.invokevirtual 69, 3) := by decide +kernel
theorem dX1_takeBroken_36 : decode cX1_takeBroken 36 = .ok (.iinc 2 1, 3) := by decide +kernel
theorem dX1_takeBroken_39 : decode cX1_takeBroken 39 = .ok (.goto (-31), 3) := by decide +kernel
theorem dX1_takeBroken_42 : decode cX1_takeBroken 42 = .ok (.aload_n 1, 1) := by decide +kernel
theorem dX1_takeBroken_43 : decode cX1_takeBroken 43 = .ok (.areturn, 1) := by decide +kernel
theorem dX1_frozen_0 : decode cX1_frozen 0 = .ok (.new 12, 3) := by decide +kernel
theorem dX1_frozen_3 : decode cX1_frozen 3 = .ok (.dup, 1) := by decide +kernel
theorem dX1_frozen_4 : decode cX1_frozen 4 = .ok (.aload_n 0, 1) := by decide +kernel
theorem dX1_frozen_5 : decode cX1_frozen 5 = .ok (.getfield 26, 3) := by decide +kernel
theorem dX1_frozen_8 : decode cX1_frozen 8 = .ok (.invokevirtual 73, 3) := by decide +kernel
theorem dX1_frozen_11 : decode cX1_frozen 11 = .ok (.invokespecial 77, 3) := by decide +kernel
theorem dX1_frozen_14 : decode cX1_frozen 14 = .ok (.astore_n 1, 1) := by decide +kernel
theorem dX1_frozen_15 : decode cX1_frozen 15 = .ok (.iconst 0, 1) := by decide +kernel
theorem dX1_frozen_16 : decode cX1_frozen 16 = .ok (.istore_n 2, 1) := by decide +kernel
theorem dX1_frozen_17 : decode cX1_frozen 17 = .ok (.iload_n 2, 1) := by decide +kernel
theorem dX1_frozen_18 : decode cX1_frozen 18 = .ok (.bipush 10, 2) := by decide +kernel
theorem dX1_frozen_20 : decode cX1_frozen 20 = .ok (.if_icmp .ge 19, 3) := by decide +kernel
theorem dX1_frozen_23 : decode cX1_frozen 23 = .ok (.aload_n 1, 1) := by decide +kernel
theorem dX1_frozen_24 : decode cX1_frozen 24 = .ok (.iload_n 2, 1) := by decide +kernel
theorem dX1_frozen_25 : decode cX1_frozen 25 = .ok (.aload_n 0, 1) := by decide +kernel
theorem dX1_frozen_26 : decode cX1_frozen 26 = .ok (.iload_n 2, 1) := by decide +kernel
theorem dX1_frozen_27 : decode cX1_frozen 27 = .ok (.invokevirtual 38, 3) := by decide +kernel
theorem dX1_frozen_30 : decode cX1_frozen 30 = .ok (.invokevirtual 69, 3) := by decide +kernel
theorem dX1_frozen_33 : decode cX1_frozen 33 = .ok (.iinc 2 1, 3) := by decide +kernel
theorem dX1_frozen_36 : decode cX1_frozen 36 = .ok (.goto (-19), 3) := by decide +kernel
theorem dX1_frozen_39 : decode cX1_frozen 39 = .ok (.aload_n 1, 1) := by decide +kernel
theorem dX1_frozen_40 : decode cX1_frozen 40 = .ok (.invokevirtual 80, 3) := by decide +kernel
theorem dX1_frozen_43 : decode cX1_frozen 43 = .ok (.aload_n 1, 1) := by decide +kernel
theorem dX1_frozen_44 : decode cX1_frozen 44 = .ok (.areturn, 1) := by decide +kernel
theorem dX1_tellOrder_0 : decode cX1_tellOrder 0 = .ok (.iconst 0, 1) := by decide +kernel
theorem dX1_tellOrder_1 : decode cX1_tellOrder 1 = .ok (.istore_n 1, 1) := by decide +kernel
theorem dX1_tellOrder_2 : decode cX1_tellOrder 2 = .ok (.iconst 0, 1) := by decide +kernel
theorem dX1_tellOrder_3 : decode cX1_tellOrder 3 = .ok (.istore_n 2, 1) := by decide +kernel
theorem dX1_tellOrder_4 : decode cX1_tellOrder 4 = .ok (.iload_n 2, 1) := by decide +kernel
theorem dX1_tellOrder_5 : decode cX1_tellOrder 5 = .ok (.bipush 6, 2) := by decide +kernel
theorem dX1_tellOrder_7 : decode cX1_tellOrder 7 = .ok (.if_icmp .ge 27, 3) := by decide +kernel
theorem dX1_tellOrder_10 : decode cX1_tellOrder 10 = .ok (.iload_n 1, 1) := by decide +kernel
theorem dX1_tellOrder_11 : decode cX1_tellOrder 11 = .ok (.aload_n 0, 1) := by decide +kernel
theorem dX1_tellOrder_12 : decode cX1_tellOrder 12 = .ok (.iload_n 2, 1) := by decide +kernel
theorem dX1_tellOrder_13 : decode cX1_tellOrder 13 = .ok (.invokevirtual 83, 3) := by decide +kernel
theorem dX1_tellOrder_16 : decode cX1_tellOrder 16 = .ok (.ifCond .eq 9, 3) := by decide +kernel
theorem dX1_tellOrder_19 : decode cX1_tellOrder 19 = .ok (.iconst 1, 1) := by decide +kernel
theorem dX1_tellOrder_20 : decode cX1_tellOrder 20 = .ok (.iload_n 2, 1) := by decide +kernel
theorem dX1_tellOrder_21 : decode cX1_tellOrder 21 = .ok (.ishl, 1) := by decide +kernel
theorem dX1_tellOrder_22 : decode cX1_tellOrder 22 = .ok (.goto 4, 3) := by decide +kernel
theorem dX1_tellOrder_25 : decode cX1_tellOrder 25 = .ok (.iconst 0, 1) := by decide +kernel
theorem dX1_tellOrder_26 : decode cX1_tellOrder 26 = .ok (.ior, 1) := by decide +kernel
theorem dX1_tellOrder_27 : decode cX1_tellOrder 27 = .ok (.istore_n 1, 1) := by decide +kernel
theorem dX1_tellOrder_28 : decode cX1_tellOrder 28 = .ok (.iinc 2 1, 3) := by decide +kernel
theorem dX1_tellOrder_31 : decode cX1_tellOrder 31 = .ok (.goto (-27), 3) := by decide +kernel
theorem dX1_tellOrder_34 : decode cX1_tellOrder 34 = .ok (.iconst 0, 1) := by decide +kernel
theorem dX1_tellOrder_35 : decode cX1_tellOrder 35 = .ok (.istore_n 2, 1) := by decide +kernel
theorem dX1_tellOrder_36 : decode cX1_tellOrder 36 = .ok (.iload_n 2, 1) := by decide +kernel
theorem dX1_tellOrder_37 : decode cX1_tellOrder 37 = .ok (.bipush 6, 2) := by decide +kernel
theorem dX1_tellOrder_39 : decode cX1_tellOrder 39 = .ok (.if_icmp .ge 39, 3) := by decide +kernel
theorem dX1_tellOrder_42 : decode cX1_tellOrder 42 = .ok (.aload_n 0, 1) := by decide +kernel
theorem dX1_tellOrder_43 : decode cX1_tellOrder 43 = .ok (.iload_n 1, 1) := by decide +kernel
theorem dX1_tellOrder_44 : decode cX1_tellOrder 44 = .ok (.invokevirtual 86, 3) := by decide +kernel
theorem dX1_tellOrder_47 : decode cX1_tellOrder 47 = .ok (.istore_n 3, 1) := by decide +kernel
theorem dX1_tellOrder_48 : decode cX1_tellOrder 48 = .ok (.aload_n 0, 1) := by decide +kernel
theorem dX1_tellOrder_49 : decode cX1_tellOrder 49 = .ok (.getfield 17, 3) := by decide +kernel
theorem dX1_tellOrder_52 : decode cX1_tellOrder 52 = .ok (.iload_n 2, 1) := by decide +kernel
theorem dX1_tellOrder_53 : decode cX1_tellOrder 53 = .ok (.iload_n 3, 1) := by decide +kernel
theorem dX1_tellOrder_54 : decode cX1_tellOrder 54 = .ok (.iastore, 1) := by decide +kernel
theorem dX1_tellOrder_55 : decode cX1_tellOrder 55 = .ok (.iload_n 1, 1) := by decide +kernel
theorem dX1_tellOrder_56 : decode cX1_tellOrder 56 = .ok (.iload_n 3, 1) := by decide +kernel
theorem dX1_tellOrder_57 : decode cX1_tellOrder 57 = .ok (.iconst (-1), 1) := by decide +kernel
theorem dX1_tellOrder_58 : decode cX1_tellOrder 58 = .ok (.if_icmp .ne 7, 3) := by decide +kernel
theorem dX1_tellOrder_61 : decode cX1_tellOrder 61 = .ok (.iload_n 1, 1) := by decide +kernel
theorem dX1_tellOrder_62 : decode cX1_tellOrder 62 = .ok (.goto 8, 3) := by decide +kernel
theorem dX1_tellOrder_65 : decode cX1_tellOrder 65 = .ok (.iconst 1, 1) := by decide +kernel
theorem dX1_tellOrder_66 : decode cX1_tellOrder 66 = .ok (.iload_n 3, 1) := by decide +kernel
theorem dX1_tellOrder_67 : decode cX1_tellOrder 67 = .ok (.ishl, 1) := by decide +kernel
theorem dX1_tellOrder_68 : decode cX1_tellOrder 68 = .ok (.iconst (-1), 1) := by decide +kernel
theorem dX1_tellOrder_69 : decode cX1_tellOrder 69 = .ok (.ixor, 1) := by decide +kernel
theorem dX1_tellOrder_70 : decode cX1_tellOrder 70 = .ok (.iand, 1) := by decide +kernel
theorem dX1_tellOrder_71 : decode cX1_tellOrder 71 = .ok (.istore_n 1, 1) := by decide +kernel
theorem dX1_tellOrder_72 : decode cX1_tellOrder 72 = .ok (.iinc 2 1, 3) := by decide +kernel
theorem dX1_tellOrder_75 : decode cX1_tellOrder 75 = .ok (.goto (-39), 3) := by decide +kernel
theorem dX1_tellOrder_78 : decode cX1_tellOrder 78 = .ok (.return_, 1) := by decide +kernel
theorem dX1_lowestFree_0 : decode cX1_lowestFree 0 = .ok (.iconst 0, 1) := by decide +kernel
theorem dX1_lowestFree_1 : decode cX1_lowestFree 1 = .ok (.istore_n 2, 1) := by decide +kernel
theorem dX1_lowestFree_2 : decode cX1_lowestFree 2 = .ok (.iload_n 2, 1) := by decide +kernel
theorem dX1_lowestFree_3 : decode cX1_lowestFree 3 = .ok (.bipush 6, 2) := by decide +kernel
theorem dX1_lowestFree_5 : decode cX1_lowestFree 5 = .ok (.if_icmp .ge 29, 3) := by decide +kernel
theorem dX1_lowestFree_8 : decode cX1_lowestFree 8 = .ok (.iload_n 1, 1) := by decide +kernel
theorem dX1_lowestFree_9 : decode cX1_lowestFree 9 = .ok (.iload_n 2, 1) := by decide +kernel
theorem dX1_lowestFree_10 : decode cX1_lowestFree 10 = .ok (.invokestatic 62, 3) := by decide +kernel
theorem dX1_lowestFree_13 : decode cX1_lowestFree 13 = .ok (.ifCond .eq 15, 3) := by decide +kernel
theorem dX1_lowestFree_16 : decode cX1_lowestFree 16 = .ok (.aload_n 0, 1) := by decide +kernel
theorem dX1_lowestFree_17 : decode cX1_lowestFree 17 = .ok (.iload_n 2, 1) := by decide +kernel
theorem dX1_lowestFree_18 : decode cX1_lowestFree 18 = .ok (.invokevirtual 66, 3) := by decide +kernel
theorem dX1_lowestFree_21 : decode cX1_lowestFree 21 = .ok (.iload_n 1, 1) := by decide +kernel
theorem dX1_lowestFree_22 : decode cX1_lowestFree 22 = .ok (.iand, 1) := by decide +kernel
theorem dX1_lowestFree_23 : decode cX1_lowestFree 23 = .ok (.ifCond .ne 5, 3) := by decide +kernel
theorem dX1_lowestFree_26 : decode cX1_lowestFree 26 = .ok (.iload_n 2, 1) := by decide +kernel
theorem dX1_lowestFree_27 : decode cX1_lowestFree 27 = .ok (.ireturn, 1) := by decide +kernel
theorem dX1_lowestFree_28 : decode cX1_lowestFree 28 = .ok (.iinc 2 1, 3) := by decide +kernel
theorem dX1_lowestFree_31 : decode cX1_lowestFree 31 = .ok (.goto (-29), 3) := by decide +kernel
theorem dX1_lowestFree_34 : decode cX1_lowestFree 34 = .ok (.iconst (-1), 1) := by decide +kernel
theorem dX1_lowestFree_35 : decode cX1_lowestFree 35 = .ok (.ireturn, 1) := by decide +kernel
theorem dX1_toldAt_0 : decode cX1_toldAt 0 = .ok (.iload_n 1, 1) := by decide +kernel
theorem dX1_toldAt_1 : decode cX1_toldAt 1 = .ok (.ifCond .lt 21, 3) := by decide +kernel
theorem dX1_toldAt_4 : decode cX1_toldAt 4 = .ok (.iload_n 1, 1) := by decide +kernel
theorem dX1_toldAt_5 : decode cX1_toldAt 5 = .ok (.aload_n 0, 1) := by decide +kernel
theorem dX1_toldAt_6 : decode cX1_toldAt 6 = .ok (.getfield 17, 3) := by decide +kernel
theorem dX1_toldAt_9 : decode cX1_toldAt 9 = .ok (.arraylength, 1) := by decide +kernel
theorem dX1_toldAt_10 : decode cX1_toldAt 10 = .ok (.if_icmp .ge 12, 3) := by decide +kernel
theorem dX1_toldAt_13 : decode cX1_toldAt 13 = .ok (.aload_n 0, 1) := by decide +kernel
theorem dX1_toldAt_14 : decode cX1_toldAt 14 = .ok (.getfield 17, 3) := by decide +kernel
theorem dX1_toldAt_17 : decode cX1_toldAt 17 = .ok (.iload_n 1, 1) := by decide +kernel
theorem dX1_toldAt_18 : decode cX1_toldAt 18 = .ok (.iaload, 1) := by decide +kernel
theorem dX1_toldAt_19 : decode cX1_toldAt 19 = .ok (.goto 4, 3) := by decide +kernel
theorem dX1_toldAt_22 : decode cX1_toldAt 22 = .ok (.iconst (-1), 1) := by decide +kernel
theorem dX1_toldAt_23 : decode cX1_toldAt 23 = .ok (.ireturn, 1) := by decide +kernel
theorem dX1_fieldsThatFall_0 : decode cX1_fieldsThatFall 0 = .ok (.iconst 0, 1) := by decide +kernel
theorem dX1_fieldsThatFall_1 : decode cX1_fieldsThatFall 1 = .ok (.istore_n 3, 1) := by decide +kernel
theorem dX1_fieldsThatFall_2 : decode cX1_fieldsThatFall 2 = .ok (.iconst 0, 1) := by decide +kernel
theorem dX1_fieldsThatFall_3 : decode cX1_fieldsThatFall 3 = .ok (.istore 4, 2) := by decide +kernel
theorem dX1_fieldsThatFall_5 : decode cX1_fieldsThatFall 5 = .ok (.iload 4, 2) := by decide +kernel
theorem dX1_fieldsThatFall_7 : decode cX1_fieldsThatFall 7 = .ok (.bipush 6, 2) := by decide +kernel
theorem dX1_fieldsThatFall_9 : decode cX1_fieldsThatFall 9 = .ok (.if_icmp .ge 40, 3) := by decide +kernel
theorem dX1_fieldsThatFall_12 : decode cX1_fieldsThatFall 12 = .ok (.aload_n 0, 1) := by decide +kernel
theorem dX1_fieldsThatFall_13 : decode cX1_fieldsThatFall 13 = .ok (.iload 4, 2) := by decide +kernel
theorem dX1_fieldsThatFall_15 : decode cX1_fieldsThatFall 15 = .ok (.invokevirtual 89, 3) := by decide +kernel
theorem dX1_fieldsThatFall_18 : decode cX1_fieldsThatFall 18 = .ok (.istore 5, 2) := by decide +kernel
theorem dX1_fieldsThatFall_20 : decode cX1_fieldsThatFall 20 = .ok (.iload 5, 2) := by decide +kernel
theorem dX1_fieldsThatFall_22 : decode cX1_fieldsThatFall 22 = .ok (.ifCond .eq 21, 3) := by decide +kernel
theorem dX1_fieldsThatFall_25 : decode cX1_fieldsThatFall 25 = .ok (.iload 5, 2) := by decide +kernel
theorem dX1_fieldsThatFall_27 : decode cX1_fieldsThatFall 27 = .ok (.aload_n 1, 1) := by decide +kernel
theorem dX1_fieldsThatFall_28 : decode cX1_fieldsThatFall 28 = .ok (.iload 4, 2) := by decide +kernel
theorem dX1_fieldsThatFall_30 : decode cX1_fieldsThatFall 30 = .ok (.invokevirtual 89, 3) := by decide +kernel
theorem dX1_fieldsThatFall_33 : decode cX1_fieldsThatFall 33 = .ok (.if_icmp .eq 10, 3) := by decide +kernel
theorem dX1_fieldsThatFall_36 : decode cX1_fieldsThatFall 36 = .ok (.iload_n 3, 1) := by decide +kernel
theorem dX1_fieldsThatFall_37 : decode cX1_fieldsThatFall 37 = .ok (.iconst 1, 1) := by decide +kernel
theorem dX1_fieldsThatFall_38 : decode cX1_fieldsThatFall 38 = .ok (.iload 4, 2) := by decide +kernel
theorem dX1_fieldsThatFall_40 : decode cX1_fieldsThatFall 40 = .ok (.ishl, 1) := by decide +kernel
theorem dX1_fieldsThatFall_41 : decode cX1_fieldsThatFall 41 = .ok (.ior, 1) := by decide +kernel
theorem dX1_fieldsThatFall_42 : decode cX1_fieldsThatFall 42 = .ok (.istore_n 3, 1) := by decide +kernel
theorem dX1_fieldsThatFall_43 : decode cX1_fieldsThatFall 43 = .ok (.iinc 4 1, 3) := by decide +kernel
theorem dX1_fieldsThatFall_46 : decode cX1_fieldsThatFall 46 = .ok (.goto (-41), 3) := by decide +kernel
theorem dX1_fieldsThatFall_49 : decode cX1_fieldsThatFall 49 = .ok (.iconst 0, 1) := by decide +kernel
theorem dX1_fieldsThatFall_50 : decode cX1_fieldsThatFall 50 = .ok (.istore 4, 2) := by decide +kernel
theorem dX1_fieldsThatFall_52 : decode cX1_fieldsThatFall 52 = .ok (.iload 4, 2) := by decide +kernel
theorem dX1_fieldsThatFall_54 : decode cX1_fieldsThatFall 54 = .ok (.bipush 10, 2) := by decide +kernel
theorem dX1_fieldsThatFall_56 : decode cX1_fieldsThatFall 56 = .ok (.if_icmp .ge 58, 3) := by decide +kernel
theorem dX1_fieldsThatFall_59 : decode cX1_fieldsThatFall 59 = .ok (.iload 4, 2) := by decide +kernel
theorem dX1_fieldsThatFall_61 : decode cX1_fieldsThatFall 61 = .ok (.aload_n 2, 1) := by decide +kernel
theorem dX1_fieldsThatFall_62 : decode cX1_fieldsThatFall 62 = .ok (.arraylength, 1) := by decide +kernel
theorem dX1_fieldsThatFall_63 : decode cX1_fieldsThatFall 63 = .ok (.if_icmp .ge 51, 3) := by decide +kernel
theorem dX1_fieldsThatFall_66 : decode cX1_fieldsThatFall 66 = .ok (.aload_n 0, 1) := by decide +kernel
theorem dX1_fieldsThatFall_67 : decode cX1_fieldsThatFall 67 = .ok (.iload 4, 2) := by decide +kernel
theorem dX1_fieldsThatFall_69 : decode cX1_fieldsThatFall 69 = .ok (.invokevirtual 38, 3) := by decide +kernel
theorem dX1_fieldsThatFall_72 : decode cX1_fieldsThatFall 72 = .ok (.astore 5, 2) := by decide +kernel
theorem dX1_fieldsThatFall_74 : decode cX1_fieldsThatFall 74 = .ok (.aload_n 2, 1) := by decide +kernel
theorem dX1_fieldsThatFall_75 : decode cX1_fieldsThatFall 75 = .ok (.iload 4, 2) := by decide +kernel
theorem dX1_fieldsThatFall_77 : decode cX1_fieldsThatFall 77 = .ok (.aaload, 1) := by decide +kernel
theorem dX1_fieldsThatFall_78 : decode cX1_fieldsThatFall 78 = .ok (.astore 6, 2) := by decide +kernel
theorem dX1_fieldsThatFall_80 : decode cX1_fieldsThatFall 80 = .ok (.aload 5, 2) := by decide +kernel
theorem dX1_fieldsThatFall_82 : decode cX1_fieldsThatFall 82 = .ok (.ifnull 26, 3) := by decide +kernel
theorem dX1_fieldsThatFall_85 : decode cX1_fieldsThatFall 85 = .ok (.aload 6, 2) := by decide +kernel
theorem dX1_fieldsThatFall_87 : decode cX1_fieldsThatFall 87 = .ok (.ifnull 21, 3) := by decide +kernel
theorem dX1_fieldsThatFall_90 : decode cX1_fieldsThatFall 90 = .ok (.aload 5, 2) := by decide +kernel
theorem dX1_fieldsThatFall_92 : decode cX1_fieldsThatFall 92 = .ok (.aload 6, 2) := by decide +kernel
theorem dX1_fieldsThatFall_94 : decode cX1_fieldsThatFall 94 = .ok (.invokevirtual 92, 3) := by decide +kernel
theorem dX1_fieldsThatFall_97 : decode cX1_fieldsThatFall 97 = .ok (.ifCond .eq 11, 3) := by decide +kernel
theorem dX1_fieldsThatFall_100 : decode cX1_fieldsThatFall 100 = .ok (.iload_n 3, 1) := by decide +kernel
theorem dX1_fieldsThatFall_101 : decode cX1_fieldsThatFall 101 = .ok (.aload 5, 2) := by decide +kernel
theorem dX1_fieldsThatFall_103 : decode cX1_fieldsThatFall 103 = .ok (.invokevirtual 58, 3) := by decide +kernel
theorem dX1_fieldsThatFall_106 : decode cX1_fieldsThatFall 106 = .ok (.ior, 1) := by decide +kernel
theorem dX1_fieldsThatFall_107 : decode cX1_fieldsThatFall 107 = .ok (.istore_n 3, 1) := by decide +kernel
theorem dX1_fieldsThatFall_108 : decode cX1_fieldsThatFall 108 = .ok (.iinc 4 1, 3) := by decide +kernel
theorem dX1_fieldsThatFall_111 : decode cX1_fieldsThatFall 111 = .ok (.goto (-59), 3) := by decide +kernel
theorem dX1_fieldsThatFall_114 : decode cX1_fieldsThatFall 114 = .ok (.iload_n 3, 1) := by decide +kernel
theorem dX1_fieldsThatFall_115 : decode cX1_fieldsThatFall 115 = .ok (.ireturn, 1) := by decide +kernel
theorem dX2_init_0 : decode cX2_init 0 = .ok (.aload_n 0, 1) := by decide +kernel
theorem dX2_init_1 : decode cX2_init 1 = .ok (.invokespecial 3, 3) := by decide +kernel
theorem dX2_init_4 : decode cX2_init 4 = .ok (.aload_n 0, 1) := by decide +kernel
theorem dX2_init_5 : decode cX2_init 5 = .ok (.aload_n 1, 1) := by decide +kernel
theorem dX2_init_6 : decode cX2_init 6 = .ok (.putfield 9, 3) := by decide +kernel
theorem dX2_init_9 : decode cX2_init 9 = .ok (.aload_n 0, 1) := by decide +kernel
theorem dX2_init_10 : decode cX2_init 10 = .ok (.aload_n 1, 1) := by decide +kernel
theorem dX2_init_11 : decode cX2_init 11 = .ok (.arraylength, 1) := by decide +kernel
theorem dX2_init_12 : decode cX2_init 12 = .ok (.newarray .int, 2) := by decide +kernel
theorem dX2_init_14 : decode cX2_init 14 = .ok (.putfield 15, 3) := by decide +kernel
theorem dX2_init_17 : decode cX2_init 17 = .ok (.aload_n 0, 1) := by decide +kernel
theorem dX2_init_18 : decode cX2_init 18 = .ok (.aload_n 2, 1) := by decide +kernel
theorem dX2_init_19 : decode cX2_init 19 = .ok (.putfield 18, 3) := by decide +kernel
theorem dX2_init_22 : decode cX2_init 22 = .ok (.aload_n 0, 1) := by decide +kernel
theorem dX2_init_23 : decode cX2_init 23 = .ok (.iload_n 3, 1) := by decide +kernel
theorem dX2_init_24 : decode cX2_init 24 = .ok (.putfield 21, 3) := by decide +kernel
theorem dX2_init_27 : decode cX2_init 27 = .ok (.return_, 1) := by decide +kernel
theorem dX2_letterSet_0 : decode cX2_letterSet 0 = .ok (.aload_n 0, 1) := by decide +kernel
theorem dX2_letterSet_1 : decode cX2_letterSet 1 = .ok (.getfield 21, 3) := by decide +kernel
theorem dX2_letterSet_4 : decode cX2_letterSet 4 = .ok (.ireturn, 1) := by decide +kernel
theorem dX2_plainSign_0 : decode cX2_plainSign 0 = .ok (.iload_n 1, 1) := by decide +kernel
theorem dX2_plainSign_1 : decode cX2_plainSign 1 = .ok (.ifCond .lt 21, 3) := by decide +kernel
theorem dX2_plainSign_4 : decode cX2_plainSign 4 = .ok (.iload_n 1, 1) := by decide +kernel
theorem dX2_plainSign_5 : decode cX2_plainSign 5 = .ok (.aload_n 0, 1) := by decide +kernel
theorem dX2_plainSign_6 : decode cX2_plainSign 6 = .ok (.getfield 18, 3) := by decide +kernel
theorem dX2_plainSign_9 : decode cX2_plainSign 9 = .ok (.arraylength, 1) := by decide +kernel
theorem dX2_plainSign_10 : decode cX2_plainSign 10 = .ok (.if_icmp .ge 12, 3) := by decide +kernel
theorem dX2_plainSign_13 : decode cX2_plainSign 13 = .ok (.aload_n 0, 1) := by decide +kernel
theorem dX2_plainSign_14 : decode cX2_plainSign 14 = .ok (.getfield 18, 3) := by decide +kernel
theorem dX2_plainSign_17 : decode cX2_plainSign 17 = .ok (.iload_n 1, 1) := by decide +kernel
theorem dX2_plainSign_18 : decode cX2_plainSign 18 = .ok (.iaload, 1) := by decide +kernel
theorem dX2_plainSign_19 : decode cX2_plainSign 19 = .ok (.goto 4, 3) := by decide +kernel
theorem dX2_plainSign_22 : decode cX2_plainSign 22 = .ok (.iconst (-1), 1) := by decide +kernel
theorem dX2_plainSign_23 : decode cX2_plainSign 23 = .ok (.ireturn, 1) := by decide +kernel
theorem dX2_looksLike_0 : decode cX2_looksLike 0 = .ok (.aload_n 1, 1) := by decide +kernel
theorem dX2_looksLike_1 : decode cX2_looksLike 1 = .ok (.getfield 18, 3) := by decide +kernel
theorem dX2_looksLike_4 : decode cX2_looksLike 4 = .ok (.arraylength, 1) := by decide +kernel
theorem dX2_looksLike_5 : decode cX2_looksLike 5 = .ok (.aload_n 0, 1) := by decide +kernel
theorem dX2_looksLike_6 : decode cX2_looksLike 6 = .ok (.getfield 18, 3) := by decide +kernel
theorem dX2_looksLike_9 : decode cX2_looksLike 9 = .ok (.arraylength, 1) := by decide +kernel
theorem dX2_looksLike_10 : decode cX2_looksLike 10 = .ok (.if_icmp .eq 5, 3) := by decide +kernel
theorem dX2_looksLike_13 : decode cX2_looksLike 13 = .ok (.iconst 0, 1) := by decide +kernel
theorem dX2_looksLike_14 : decode cX2_looksLike 14 = .ok (.ireturn, 1) := by decide +kernel
theorem dX2_looksLike_15 : decode cX2_looksLike 15 = .ok (.iconst 0, 1) := by decide +kernel
theorem dX2_looksLike_16 : decode cX2_looksLike 16 = .ok (.istore_n 2, 1) := by decide +kernel
theorem dX2_looksLike_17 : decode cX2_looksLike 17 = .ok (.iload_n 2, 1) := by decide +kernel
theorem dX2_looksLike_18 : decode cX2_looksLike 18 = .ok (.aload_n 0, 1) := by decide +kernel
theorem dX2_looksLike_19 : decode cX2_looksLike 19 = .ok (.getfield 18, 3) := by decide +kernel
theorem dX2_looksLike_22 : decode cX2_looksLike 22 = .ok (.arraylength, 1) := by decide +kernel
theorem dX2_looksLike_23 : decode cX2_looksLike 23 = .ok (.if_icmp .ge 25, 3) := by decide +kernel
theorem dX2_looksLike_26 : decode cX2_looksLike 26 = .ok (.aload_n 1, 1) := by decide +kernel
theorem dX2_looksLike_27 : decode cX2_looksLike 27 = .ok (.iload_n 2, 1) := by decide +kernel
theorem dX2_looksLike_28 : decode cX2_looksLike 28 = .ok (.invokevirtual 25, 3) := by decide +kernel
theorem dX2_looksLike_31 : decode cX2_looksLike 31 = .ok (.aload_n 0, 1) := by decide +kernel
theorem dX2_looksLike_32 : decode cX2_looksLike 32 = .ok (.getfield 18, 3) := by decide +kernel
theorem dX2_looksLike_35 : decode cX2_looksLike 35 = .ok (.iload_n 2, 1) := by decide +kernel
theorem dX2_looksLike_36 : decode cX2_looksLike 36 = .ok (.iaload, 1) := by decide +kernel
theorem dX2_looksLike_37 : decode cX2_looksLike 37 = .ok (.if_icmp .eq 5, 3) := by decide +kernel
theorem dX2_looksLike_40 : decode cX2_looksLike 40 = .ok (.iconst 0, 1) := by decide +kernel
theorem dX2_looksLike_41 : decode cX2_looksLike 41 = .ok (.ireturn, 1) := by decide +kernel
theorem dX2_looksLike_42 : decode cX2_looksLike 42 = .ok (.iinc 2 1, 3) := by decide +kernel
theorem dX2_looksLike_45 : decode cX2_looksLike 45 = .ok (.goto (-28), 3) := by decide +kernel
theorem dX2_looksLike_48 : decode cX2_looksLike 48 = .ok (.iconst 1, 1) := by decide +kernel
theorem dX2_looksLike_49 : decode cX2_looksLike 49 = .ok (.ireturn, 1) := by decide +kernel
theorem dX2_readFor_0 : decode cX2_readFor 0 = .ok (.iconst 0, 1) := by decide +kernel
theorem dX2_readFor_1 : decode cX2_readFor 1 = .ok (.istore_n 2, 1) := by decide +kernel
theorem dX2_readFor_2 : decode cX2_readFor 2 = .ok (.aload_n 0, 1) := by decide +kernel
theorem dX2_readFor_3 : decode cX2_readFor 3 = .ok (.getfield 9, 3) := by decide +kernel
theorem dX2_readFor_6 : decode cX2_readFor 6 = .ok (.astore_n 3, 1) := by decide +kernel
theorem dX2_readFor_7 : decode cX2_readFor 7 = .ok (.aload_n 3, 1) := by decide +kernel
theorem dX2_readFor_8 : decode cX2_readFor 8 = .ok (.arraylength, 1) := by decide +kernel
theorem dX2_readFor_9 : decode cX2_readFor 9 = .ok (.istore 4, 2) := by decide +kernel
theorem dX2_readFor_11 : decode cX2_readFor 11 = .ok (.iconst 0, 1) := by decide +kernel
theorem dX2_readFor_12 : decode cX2_readFor 12 = .ok (.istore 5, 2) := by decide +kernel
theorem dX2_readFor_14 : decode cX2_readFor 14 = .ok (.iload 5, 2) := by decide +kernel
theorem dX2_readFor_16 : decode cX2_readFor 16 = .ok (.iload 4, 2) := by decide +kernel
theorem dX2_readFor_18 : decode cX2_readFor 18 = .ok (.if_icmp .ge 139, 3) := by decide +kernel
theorem dX2_readFor_21 : decode cX2_readFor 21 = .ok (.aload_n 3, 1) := by decide +kernel
theorem dX2_readFor_22 : decode cX2_readFor 22 = .ok (.iload 5, 2) := by decide +kernel
theorem dX2_readFor_24 : decode cX2_readFor 24 = .ok (.iaload, 1) := by decide +kernel
theorem dX2_readFor_25 : decode cX2_readFor 25 = .ok (.istore 6, 2) := by decide +kernel
theorem dX2_readFor_27 : decode cX2_readFor 27 = .ok (.iload 6, 2) := by decide +kernel
theorem dX2_readFor_29 : decode cX2_readFor 29 = .ok (.ifCond .lt 51, 3) := by decide +kernel
theorem dX2_readFor_32 : decode cX2_readFor 32 = .ok (.iload_n 2, 1) := by decide +kernel
theorem dX2_readFor_33 : decode cX2_readFor 33 = .ok (.aload_n 0, 1) := by decide +kernel
theorem dX2_readFor_34 : decode cX2_readFor 34 = .ok (.getfield 15, 3) := by decide +kernel
theorem dX2_readFor_37 : decode cX2_readFor 37 = .ok (.arraylength, 1) := by decide +kernel
theorem dX2_readFor_38 : decode cX2_readFor 38 = .ok (.if_icmp .ge 42, 3) := by decide +kernel
theorem dX2_readFor_41 : decode cX2_readFor 41 = .ok (.aload_n 0, 1) := by decide +kernel
theorem dX2_readFor_42 : decode cX2_readFor 42 = .ok (.getfield 15, 3) := by decide +kernel
theorem dX2_readFor_45 : decode cX2_readFor 45 = .ok (.iload_n 2, 1) := by decide +kernel
theorem dX2_readFor_46 : decode cX2_readFor 46 = .ok (.iload 6, 2) := by decide +kernel
theorem dX2_readFor_48 : decode cX2_readFor 48 = .ok (.sipush 1000, 3) := by decide +kernel
theorem dX2_readFor_51 : decode cX2_readFor 51 = .ok (.if_icmp .ge 12, 3) := by decide +kernel
theorem dX2_readFor_54 : decode cX2_readFor 54 = .ok (.aload_n 1, 1) := by decide +kernel
theorem dX2_readFor_55 : decode cX2_readFor 55 = .ok (.iload 6, 2) := by decide +kernel
theorem dX2_readFor_57 : decode cX2_readFor 57 = .ok (.invokevirtual 29, 3) := by decide +kernel
theorem dX2_readFor_60 : decode cX2_readFor 60 = .ok (.goto 13, 3) := by decide +kernel
theorem dX2_readFor_63 : decode cX2_readFor 63 = .ok (.aload_n 1, 1) := by decide +kernel
theorem dX2_readFor_64 : decode cX2_readFor 64 = .ok (.iload 6, 2) := by decide +kernel
theorem dX2_readFor_66 : decode cX2_readFor 66 = .ok (.sipush 1000, 3) := by decide +kernel
theorem dX2_readFor_69 : decode cX2_readFor 69 = .ok (.isub, 1) := by decide +kernel
theorem dX2_readFor_70 : decode cX2_readFor 70 = .ok (.invokevirtual 34, 3) := by decide +kernel
theorem dX2_readFor_73 : decode cX2_readFor 73 = .ok (.iastore, 1) := by decide +kernel
theorem dX2_readFor_74 : decode cX2_readFor 74 = .ok (.iinc 2 1, 3) := by decide +kernel
theorem dX2_readFor_77 : decode cX2_readFor 77 = .ok (.goto 74, 3) := by decide +kernel
theorem dX2_readFor_80 : decode cX2_readFor 80 = .ok (.iload 6, 2) := by decide +kernel
theorem dX2_readFor_82 : decode cX2_readFor 82 = .ok (.bipush (-33), 2) := by decide +kernel
theorem dX2_readFor_84 : decode cX2_readFor 84 = .ok (.if_icmp .ne 30, 3) := by decide +kernel
theorem dX2_readFor_87 : decode cX2_readFor 87 = .ok (.iload_n 2, 1) := by decide +kernel
theorem dX2_readFor_88 : decode cX2_readFor 88 = .ok (.ifCond .le 26, 3) := by decide +kernel
theorem dX2_readFor_91 : decode cX2_readFor 91 = .ok (.aload_n 0, 1) := by decide +kernel
theorem dX2_readFor_92 : decode cX2_readFor 92 = .ok (.getfield 15, 3) := by decide +kernel
theorem dX2_readFor_95 : decode cX2_readFor 95 = .ok (.iload_n 2, 1) := by decide +kernel
theorem dX2_readFor_96 : decode cX2_readFor 96 = .ok (.iconst 1, 1) := by decide +kernel
theorem dX2_readFor_97 : decode cX2_readFor 97 = .ok (.isub, 1) := by decide +kernel
theorem dX2_readFor_98 : decode cX2_readFor 98 = .ok (.aload_n 1, 1) := by decide +kernel
theorem dX2_readFor_99 : decode cX2_readFor 99 = .ok (.aload_n 0, 1) := by decide +kernel
theorem dX2_readFor_100 : decode cX2_readFor 100 = .ok (.getfield 15, 3) := by decide +kernel
theorem dX2_readFor_103 : decode cX2_readFor 103 = .ok (.iload_n 2, 1) := by decide +kernel
theorem dX2_readFor_104 : decode cX2_readFor 104 = .ok (.iconst 1, 1) := by decide +kernel
theorem dX2_readFor_105 : decode cX2_readFor 105 = .ok (.isub, 1) := by decide +kernel
theorem dX2_readFor_106 : decode cX2_readFor 106 = .ok (.iaload, 1) := by decide +kernel
theorem dX2_readFor_107 : decode cX2_readFor 107 = .ok (.invokevirtual 37, 3) := by decide +kernel
theorem dX2_readFor_110 : decode cX2_readFor 110 = .ok (.iastore, 1) := by decide +kernel
theorem dX2_readFor_111 : decode cX2_readFor 111 = .ok (.goto 40, 3) := by decide +kernel
theorem dX2_readFor_114 : decode cX2_readFor 114 = .ok (.iload_n 2, 1) := by decide +kernel
theorem dX2_readFor_115 : decode cX2_readFor 115 = .ok (.iconst 1, 1) := by decide +kernel
theorem dX2_readFor_116 : decode cX2_readFor 116 = .ok (.if_icmp .le 35, 3) := by decide +kernel
theorem dX2_readFor_119 : decode cX2_readFor 119 = .ok (.iinc 2 (-1), 3) := by decide +kernel
theorem dX2_readFor_122 : decode cX2_readFor 122 = .ok (.aload_n 0, 1) := by decide +kernel
theorem dX2_readFor_123 : decode cX2_readFor 123 = .ok (.getfield 15, 3) := by decide +kernel
theorem dX2_readFor_126 : decode cX2_readFor 126 = .ok (.iload_n 2, 1) := by decide +kernel
theorem dX2_readFor_127 : decode cX2_readFor 127 = .ok (.iconst 1, 1) := by decide +kernel
theorem dX2_readFor_128 : decode cX2_readFor 128 = .ok (.isub, 1) := by decide +kernel
theorem dX2_readFor_129 : decode cX2_readFor 129 = .ok (.aload_n 1, 1) := by decide +kernel
theorem dX2_readFor_130 : decode cX2_readFor 130 = .ok (.iload 6, 2) := by decide +kernel
theorem dX2_readFor_132 : decode cX2_readFor 132 = .ok (.ineg, 1) := by decide +kernel
theorem dX2_readFor_133 : decode cX2_readFor 133 = .ok (.aload_n 0, 1) := by decide +kernel
theorem dX2_readFor_134 : decode cX2_readFor 134 = .ok (.getfield 15, 3) := by decide +kernel
theorem dX2_readFor_137 : decode cX2_readFor 137 = .ok (.iload_n 2, 1) := by decide +kernel
theorem dX2_readFor_138 : decode cX2_readFor 138 = .ok (.iconst 1, 1) := by decide +kernel
theorem dX2_readFor_139 : decode cX2_readFor 139 = .ok (.isub, 1) := by decide +kernel
theorem dX2_readFor_140 : decode cX2_readFor 140 = .ok (.iaload, 1) := by decide +kernel
theorem dX2_readFor_141 : decode cX2_readFor 141 = .ok (.aload_n 0, 1) := by decide +kernel
theorem dX2_readFor_142 : decode cX2_readFor 142 = .ok (.getfield 15, 3) := by decide +kernel
theorem dX2_readFor_145 : decode cX2_readFor 145 = .ok (.iload_n 2, 1) := by decide +kernel
theorem dX2_readFor_146 : decode cX2_readFor 146 = .ok (.iaload, 1) := by decide +kernel
theorem dX2_readFor_147 : decode cX2_readFor 147 = .ok (.invokevirtual 40, 3) := by decide +kernel
theorem dX2_readFor_150 : decode cX2_readFor 150 = .ok (.iastore, 1) := by decide +kernel
theorem dX2_readFor_151 : decode cX2_readFor 151 = .ok (.iinc 5 1, 3) := by decide +kernel
theorem dX2_readFor_154 : decode cX2_readFor 154 = .ok (.goto (-140), 3) := by decide +kernel
theorem dX2_readFor_157 : decode cX2_readFor 157 = .ok (.iload_n 2, 1) := by decide +kernel
theorem dX2_readFor_158 : decode cX2_readFor 158 = .ok (.ifCond .le 12, 3) := by decide +kernel
theorem dX2_readFor_161 : decode cX2_readFor 161 = .ok (.aload_n 0, 1) := by decide +kernel
theorem dX2_readFor_162 : decode cX2_readFor 162 = .ok (.getfield 15, 3) := by decide +kernel
theorem dX2_readFor_165 : decode cX2_readFor 165 = .ok (.iconst 0, 1) := by decide +kernel
theorem dX2_readFor_166 : decode cX2_readFor 166 = .ok (.iaload, 1) := by decide +kernel
theorem dX2_readFor_167 : decode cX2_readFor 167 = .ok (.goto 4, 3) := by decide +kernel
theorem dX2_readFor_170 : decode cX2_readFor 170 = .ok (.iconst (-1), 1) := by decide +kernel
theorem dX2_readFor_171 : decode cX2_readFor 171 = .ok (.ireturn, 1) := by decide +kernel
theorem dX3_init_0 : decode cX3_init 0 = .ok (.aload_n 0, 1) := by decide +kernel
theorem dX3_init_1 : decode cX3_init 1 = .ok (.invokespecial 1, 3) := by decide +kernel
theorem dX3_init_4 : decode cX3_init 4 = .ok (.return_, 1) := by decide +kernel
theorem dX4_init_0 : decode cX4_init 0 = .ok (.aload_n 0, 1) := by decide +kernel
theorem dX4_init_1 : decode cX4_init 1 = .ok (.invokespecial 3, 3) := by decide +kernel
theorem dX4_init_4 : decode cX4_init 4 = .ok (.aload_n 0, 1) := by decide +kernel
theorem dX4_init_5 : decode cX4_init 5 = .ok (.bipush 40, 2) := by decide +kernel
theorem dX4_init_7 : decode cX4_init 7 = .ok (.newarray .char, 2) := by decide +kernel
theorem dX4_init_9 : decode cX4_init 9 = .ok (.putfield 9, 3) := by decide +kernel
theorem dX4_init_12 : decode cX4_init 12 = .ok (.aload_n 0, 1) := by decide +kernel
theorem dX4_init_13 : decode cX4_init 13 = .ok (.iconst 0, 1) := by decide +kernel
theorem dX4_init_14 : decode cX4_init 14 = .ok (.putfield 15, 3) := by decide +kernel
theorem dX4_init_17 : decode cX4_init 17 = .ok (.aload_n 0, 1) := by decide +kernel
theorem dX4_init_18 : decode cX4_init 18 = .ok (.iconst 0, 1) := by decide +kernel
theorem dX4_init_19 : decode cX4_init 19 = .ok (.putfield 19, 3) := by decide +kernel
theorem dX4_init_22 : decode cX4_init 22 = .ok (.aload_n 0, 1) := by decide +kernel
theorem dX4_init_23 : decode cX4_init 23 = .ok (.bipush 40, 2) := by decide +kernel
theorem dX4_init_25 : decode cX4_init 25 = .ok (.newarray .int, 2) := by decide +kernel
theorem dX4_init_27 : decode cX4_init 27 = .ok (.putfield 22, 3) := by decide +kernel
theorem dX4_init_30 : decode cX4_init 30 = .ok (.aload_n 0, 1) := by decide +kernel
theorem dX4_init_31 : decode cX4_init 31 = .ok (.iconst 0, 1) := by decide +kernel
theorem dX4_init_32 : decode cX4_init 32 = .ok (.putfield 26, 3) := by decide +kernel
theorem dX4_init_35 : decode cX4_init 35 = .ok (.aload_n 0, 1) := by decide +kernel
theorem dX4_init_36 : decode cX4_init 36 = .ok (.bipush 80, 2) := by decide +kernel
theorem dX4_init_38 : decode cX4_init 38 = .ok (.newarray .int, 2) := by decide +kernel
theorem dX4_init_40 : decode cX4_init 40 = .ok (.putfield 29, 3) := by decide +kernel
theorem dX4_init_43 : decode cX4_init 43 = .ok (.aload_n 0, 1) := by decide +kernel
theorem dX4_init_44 : decode cX4_init 44 = .ok (.iconst 0, 1) := by decide +kernel
theorem dX4_init_45 : decode cX4_init 45 = .ok (.putfield 32, 3) := by decide +kernel
theorem dX4_init_48 : decode cX4_init 48 = .ok (.aload_n 0, 1) := by decide +kernel
theorem dX4_init_49 : decode cX4_init 49 = .ok (.iconst 0, 1) := by decide +kernel
theorem dX4_init_50 : decode cX4_init 50 = .ok (.putfield 35, 3) := by decide +kernel
theorem dX4_init_53 : decode cX4_init 53 = .ok (.return_, 1) := by decide +kernel
theorem dX4_size_0 : decode cX4_size 0 = .ok (.aload_n 0, 1) := by decide +kernel
theorem dX4_size_1 : decode cX4_size 1 = .ok (.getfield 15, 3) := by decide +kernel
theorem dX4_size_4 : decode cX4_size 4 = .ok (.ireturn, 1) := by decide +kernel
theorem dX4_append_0 : decode cX4_append 0 = .ok (.aload_n 0, 1) := by decide +kernel
theorem dX4_append_1 : decode cX4_append 1 = .ok (.getfield 15, 3) := by decide +kernel
theorem dX4_append_4 : decode cX4_append 4 = .ok (.aload_n 0, 1) := by decide +kernel
theorem dX4_append_5 : decode cX4_append 5 = .ok (.getfield 9, 3) := by decide +kernel
theorem dX4_append_8 : decode cX4_append 8 = .ok (.arraylength, 1) := by decide +kernel
theorem dX4_append_9 : decode cX4_append 9 = .ok (.if_icmp .ge 23, 3) := by decide +kernel
theorem dX4_append_12 : decode cX4_append 12 = .ok (.aload_n 0, 1) := by decide +kernel
theorem dX4_append_13 : decode cX4_append 13 = .ok (.getfield 9, 3) := by decide +kernel
theorem dX4_append_16 : decode cX4_append 16 = .ok (.aload_n 0, 1) := by decide +kernel
theorem dX4_append_17 : decode cX4_append 17 = .ok (.getfield 15, 3) := by decide +kernel
theorem dX4_append_20 : decode cX4_append 20 = .ok (.iload_n 1, 1) := by decide +kernel
theorem dX4_append_21 : decode cX4_append 21 = .ok (.castore, 1) := by decide +kernel
theorem dX4_append_22 : decode cX4_append 22 = .ok (.aload_n 0, 1) := by decide +kernel
theorem dX4_append_23 : decode cX4_append 23 = .ok (.dup, 1) := by decide +kernel
theorem dX4_append_24 : decode cX4_append 24 = .ok (.getfield 15, 3) := by decide +kernel
theorem dX4_append_27 : decode cX4_append 27 = .ok (.iconst 1, 1) := by decide +kernel
theorem dX4_append_28 : decode cX4_append 28 = .ok (.iadd, 1) := by decide +kernel
theorem dX4_append_29 : decode cX4_append 29 = .ok (.putfield 15, 3) := by decide +kernel
theorem dX4_append_32 : decode cX4_append 32 = .ok (.return_, 1) := by decide +kernel
theorem dX4_empty_0 : decode cX4_empty 0 = .ok (.aload_n 0, 1) := by decide +kernel
theorem dX4_empty_1 : decode cX4_empty 1 = .ok (.iconst 0, 1) := by decide +kernel
theorem dX4_empty_2 : decode cX4_empty 2 = .ok (.putfield 15, 3) := by decide +kernel
theorem dX4_empty_5 : decode cX4_empty 5 = .ok (.return_, 1) := by decide +kernel
theorem dX4_firstError_0 : decode cX4_firstError 0 = .ok (.aload_n 0, 1) := by decide +kernel
theorem dX4_firstError_1 : decode cX4_firstError 1 = .ok (.iconst 0, 1) := by decide +kernel
theorem dX4_firstError_2 : decode cX4_firstError 2 = .ok (.putfield 19, 3) := by decide +kernel
theorem dX4_firstError_5 : decode cX4_firstError 5 = .ok (.aload_n 0, 1) := by decide +kernel
theorem dX4_firstError_6 : decode cX4_firstError 6 = .ok (.iconst 0, 1) := by decide +kernel
theorem dX4_firstError_7 : decode cX4_firstError 7 = .ok (.putfield 26, 3) := by decide +kernel
theorem dX4_firstError_10 : decode cX4_firstError 10 = .ok (.aload_n 0, 1) := by decide +kernel
theorem dX4_firstError_11 : decode cX4_firstError 11 = .ok (.iconst 0, 1) := by decide +kernel
theorem dX4_firstError_12 : decode cX4_firstError 12 = .ok (.putfield 32, 3) := by decide +kernel
theorem dX4_firstError_15 : decode cX4_firstError 15 = .ok (.aload_n 0, 1) := by decide +kernel
theorem dX4_firstError_16 : decode cX4_firstError 16 = .ok (.iconst 0, 1) := by decide +kernel
theorem dX4_firstError_17 : decode cX4_firstError 17 = .ok (.putfield 35, 3) := by decide +kernel
theorem dX4_firstError_20 : decode cX4_firstError 20 = .ok (.aload_n 0, 1) := by decide +kernel
theorem dX4_firstError_21 : decode cX4_firstError 21 = .ok (.iconst 0, 1) := by decide +kernel
theorem dX4_firstError_22 : decode cX4_firstError 22 = .ok (.iconst 0, 1) := by decide +kernel
theorem dX4_firstError_23 : decode cX4_firstError 23 = .ok (.invokevirtual 38, 3) := by decide +kernel
theorem dX4_firstError_26 : decode cX4_firstError 26 = .ok (.ifCond .eq 18, 3) := by decide +kernel
theorem dX4_firstError_29 : decode cX4_firstError 29 = .ok (.aload_n 0, 1) := by decide +kernel
theorem dX4_firstError_30 : decode cX4_firstError 30 = .ok (.getfield 19, 3) := by decide +kernel
theorem dX4_firstError_33 : decode cX4_firstError 33 = .ok (.aload_n 0, 1) := by decide +kernel
theorem dX4_firstError_34 : decode cX4_firstError 34 = .ok (.getfield 15, 3) := by decide +kernel
theorem dX4_firstError_37 : decode cX4_firstError 37 = .ok (.if_icmp .ne 7, 3) := by decide +kernel
theorem dX4_firstError_40 : decode cX4_firstError 40 = .ok (.iconst (-1), 1) := by decide +kernel
theorem dX4_firstError_41 : decode cX4_firstError 41 = .ok (.goto 7, 3) := by decide +kernel
theorem dX4_firstError_44 : decode cX4_firstError 44 = .ok (.aload_n 0, 1) := by decide +kernel
theorem dX4_firstError_45 : decode cX4_firstError 45 = .ok (.getfield 19, 3) := by decide +kernel
theorem dX4_firstError_48 : decode cX4_firstError 48 = .ok (.ireturn, 1) := by decide +kernel
theorem dX4_made_0 : decode cX4_made 0 = .ok (.new 42, 3) := by decide +kernel
theorem dX4_made_3 : decode cX4_made 3 = .ok (.dup, 1) := by decide +kernel
theorem dX4_made_4 : decode cX4_made 4 = .ok (.aload_n 0, 1) := by decide +kernel
theorem dX4_made_5 : decode cX4_made 5 = .ok (.getfield 22, 3) := by decide +kernel
theorem dX4_made_8 : decode cX4_made 8 = .ok (.aload_n 0, 1) := by decide +kernel
theorem dX4_made_9 : decode cX4_made 9 = .ok (.getfield 26, 3) := by decide +kernel
theorem dX4_made_12 : decode cX4_made 12 = .ok (.invokestatic 44, 3) := by decide +kernel
theorem dX4_made_15 : decode cX4_made 15 = .ok (.aload_n 0, 1) := by decide +kernel
theorem dX4_made_16 : decode cX4_made 16 = .ok (.getfield 29, 3) := by decide +kernel
theorem dX4_made_19 : decode cX4_made 19 = .ok (.aload_n 0, 1) := by decide +kernel
theorem dX4_made_20 : decode cX4_made 20 = .ok (.getfield 32, 3) := by decide +kernel
theorem dX4_made_23 : decode cX4_made 23 = .ok (.invokestatic 44, 3) := by decide +kernel
theorem dX4_made_26 : decode cX4_made 26 = .ok (.aload_n 0, 1) := by decide +kernel
theorem dX4_made_27 : decode cX4_made 27 = .ok (.getfield 35, 3) := by decide +kernel
theorem dX4_made_30 : decode cX4_made 30 = .ok (.invokespecial 50, 3) := by decide +kernel
theorem dX4_made_33 : decode cX4_made 33 = .ok (.areturn, 1) := by decide +kernel
theorem dX4_readParts_0 : decode cX4_readParts 0 = .ok (.iload_n 1, 1) := by decide +kernel
theorem dX4_readParts_1 : decode cX4_readParts 1 = .ok (.iconst 4, 1) := by decide +kernel
theorem dX4_readParts_2 : decode cX4_readParts 2 = .ok (.if_icmp .le 9, 3) := by decide +kernel
theorem dX4_readParts_5 : decode cX4_readParts 5 = .ok (.aload_n 0, 1) := by decide +kernel
theorem dX4_readParts_6 : decode cX4_readParts 6 = .ok (.iload_n 2, 1) := by decide +kernel
theorem dX4_readParts_7 : decode cX4_readParts 7 = .ok (.invokevirtual 53, 3) := by decide +kernel
theorem dX4_readParts_10 : decode cX4_readParts 10 = .ok (.ireturn, 1) := by decide +kernel
theorem dX4_readParts_11 : decode cX4_readParts 11 = .ok (.aload_n 0, 1) := by decide +kernel
theorem dX4_readParts_12 : decode cX4_readParts 12 = .ok (.getfield 32, 3) := by decide +kernel
theorem dX4_readParts_15 : decode cX4_readParts 15 = .ok (.istore_n 3, 1) := by decide +kernel
theorem dX4_readParts_16 : decode cX4_readParts 16 = .ok (.aload_n 0, 1) := by decide +kernel
theorem dX4_readParts_17 : decode cX4_readParts 17 = .ok (.iload_n 1, 1) := by decide +kernel
theorem dX4_readParts_18 : decode cX4_readParts 18 = .ok (.iconst 1, 1) := by decide +kernel
theorem dX4_readParts_19 : decode cX4_readParts 19 = .ok (.iadd, 1) := by decide +kernel
theorem dX4_readParts_20 : decode cX4_readParts 20 = .ok (.iload_n 2, 1) := by decide +kernel
theorem dX4_readParts_21 : decode cX4_readParts 21 = .ok (.invokevirtual 38, 3) := by decide +kernel
theorem dX4_readParts_24 : decode cX4_readParts 24 = .ok (.ifCond .ne 5, 3) := by decide +kernel
theorem dX4_readParts_27 : decode cX4_readParts 27 = .ok (.iconst 0, 1) := by decide +kernel
theorem dX4_readParts_28 : decode cX4_readParts 28 = .ok (.ireturn, 1) := by decide +kernel
theorem dX4_readParts_29 : decode cX4_readParts 29 = .ok (.iload_n 1, 1) := by decide +kernel
theorem dX4_readParts_30 : decode cX4_readParts 30 = .ok (.iconst 2, 1) := by decide +kernel
theorem dX4_readParts_31 : decode cX4_readParts 31 = .ok (.if_icmp .ne 7, 3) := by decide +kernel
theorem dX4_readParts_34 : decode cX4_readParts 34 = .ok (.iconst 1, 1) := by decide +kernel
theorem dX4_readParts_35 : decode cX4_readParts 35 = .ok (.goto 5, 3) := by decide +kernel
theorem dX4_readParts_38 : decode cX4_readParts 38 = .ok (.bipush 40, 2) := by decide +kernel
theorem dX4_readParts_40 : decode cX4_readParts 40 = .ok (.istore 4, 2) := by decide +kernel
theorem dX4_readParts_42 : decode cX4_readParts 42 = .ok (.iconst 0, 1) := by decide +kernel
theorem dX4_readParts_43 : decode cX4_readParts 43 = .ok (.istore 5, 2) := by decide +kernel
theorem dX4_readParts_45 : decode cX4_readParts 45 = .ok (.iload 5, 2) := by decide +kernel
theorem dX4_readParts_47 : decode cX4_readParts 47 = .ok (.iload 4, 2) := by decide +kernel
theorem dX4_readParts_49 : decode cX4_readParts 49 = .ok (.if_icmp .ge 73, 3) := by decide +kernel
theorem dX4_readParts_52 : decode cX4_readParts 52 = .ok (.aload_n 0, 1) := by decide +kernel
theorem dX4_readParts_53 : decode cX4_readParts 53 = .ok (.invokevirtual 57, 3) := by decide +kernel
theorem dX4_readParts_56 : decode cX4_readParts 56 = .ok (.invokestatic 61, 3) := by decide +kernel
theorem dX4_readParts_59 : decode cX4_readParts 59 = .ok (.iload_n 1, 1) := by decide +kernel
theorem dX4_readParts_60 : decode cX4_readParts 60 = .ok (.if_icmp .ne 62, 3) := by decide +kernel
theorem dX4_readParts_63 : decode cX4_readParts 63 = .ok (.aload_n 0, 1) := by decide +kernel
theorem dX4_readParts_64 : decode cX4_readParts 64 = .ok (.invokevirtual 57, 3) := by decide +kernel
theorem dX4_readParts_67 : decode cX4_readParts 67 = .ok (.istore 6, 2) := by decide +kernel
theorem dX4_readParts_69 : decode cX4_readParts 69 = .ok (.aload_n 0, 1) := by decide +kernel
theorem dX4_readParts_70 : decode cX4_readParts 70 = .ok (.dup, 1) := by decide +kernel
theorem dX4_readParts_71 : decode cX4_readParts 71 = .ok (.getfield 19, 3) := by decide +kernel
theorem dX4_readParts_74 : decode cX4_readParts 74 = .ok (.iconst 1, 1) := by decide +kernel
theorem dX4_readParts_75 : decode cX4_readParts 75 = .ok (.iadd, 1) := by decide +kernel
theorem dX4_readParts_76 : decode cX4_readParts 76 = .ok (.putfield 19, 3) := by decide +kernel
theorem dX4_readParts_79 : decode cX4_readParts 79 = .ok (.aload_n 0, 1) := by decide +kernel
theorem dX4_readParts_80 : decode cX4_readParts 80 = .ok (.iload_n 3, 1) := by decide +kernel
theorem dX4_readParts_81 : decode cX4_readParts 81 = .ok (.invokevirtual 65, 3) := by decide +kernel
theorem dX4_readParts_84 : decode cX4_readParts 84 = .ok (.aload_n 0, 1) := by decide +kernel
theorem dX4_readParts_85 : decode cX4_readParts 85 = .ok (.iload 6, 2) := by decide +kernel
theorem dX4_readParts_87 : decode cX4_readParts 87 = .ok (.invokevirtual 69, 3) := by decide +kernel
theorem dX4_readParts_90 : decode cX4_readParts 90 = .ok (.aload_n 0, 1) := by decide +kernel
theorem dX4_readParts_91 : decode cX4_readParts 91 = .ok (.iload_n 1, 1) := by decide +kernel
theorem dX4_readParts_92 : decode cX4_readParts 92 = .ok (.iconst 1, 1) := by decide +kernel
theorem dX4_readParts_93 : decode cX4_readParts 93 = .ok (.iadd, 1) := by decide +kernel
theorem dX4_readParts_94 : decode cX4_readParts 94 = .ok (.iload_n 2, 1) := by decide +kernel
theorem dX4_readParts_95 : decode cX4_readParts 95 = .ok (.invokevirtual 38, 3) := by decide +kernel
theorem dX4_readParts_98 : decode cX4_readParts 98 = .ok (.ifCond .ne 5, 3) := by decide +kernel
theorem dX4_readParts_101 : decode cX4_readParts 101 = .ok (.iconst 0, 1) := by decide +kernel
theorem dX4_readParts_102 : decode cX4_readParts 102 = .ok (.ireturn, 1) := by decide +kernel
theorem dX4_readParts_103 : decode cX4_readParts 103 = .ok (.aload_n 0, 1) := by decide +kernel
theorem dX4_readParts_104 : decode cX4_readParts 104 = .ok (.bipush 41, 2) := by decide +kernel
theorem dX4_readParts_106 : decode cX4_readParts 106 = .ok (.invokevirtual 69, 3) := by decide +kernel
theorem dX4_readParts_109 : decode cX4_readParts 109 = .ok (.aload_n 0, 1) := by decide +kernel
theorem dX4_readParts_110 : decode cX4_readParts 110 = .ok (.iload 6, 2) := by decide +kernel
theorem dX4_readParts_112 : decode cX4_readParts 112 = .ok (.ineg, 1) := by decide +kernel
theorem dX4_readParts_113 : decode cX4_readParts 113 = .ok (.invokevirtual 73, 3) := by decide +kernel
theorem dX4_readParts_116 : decode cX4_readParts 116 = .ok (.iinc 5 1, 3) := by decide +kernel
theorem dX4_readParts_119 : decode cX4_readParts 119 = .ok (.goto (-74), 3) := by decide +kernel
theorem dX4_readParts_122 : decode cX4_readParts 122 = .ok (.iconst 1, 1) := by decide +kernel
theorem dX4_readParts_123 : decode cX4_readParts 123 = .ok (.ireturn, 1) := by decide +kernel
theorem dX4_readFactor_0 : decode cX4_readFactor 0 = .ok (.aload_n 0, 1) := by decide +kernel
theorem dX4_readFactor_1 : decode cX4_readFactor 1 = .ok (.invokevirtual 57, 3) := by decide +kernel
theorem dX4_readFactor_4 : decode cX4_readFactor 4 = .ok (.istore_n 2, 1) := by decide +kernel
theorem dX4_readFactor_5 : decode cX4_readFactor 5 = .ok (.iload_n 2, 1) := by decide +kernel
theorem dX4_readFactor_6 : decode cX4_readFactor 6 = .ok (.invokestatic 76, 3) := by decide +kernel
theorem dX4_readFactor_9 : decode cX4_readFactor 9 = .ok (.ifCond .eq 9, 3) := by decide +kernel
theorem dX4_readFactor_12 : decode cX4_readFactor 12 = .ok (.aload_n 0, 1) := by decide +kernel
theorem dX4_readFactor_13 : decode cX4_readFactor 13 = .ok (.invokevirtual 80, 3) := by decide +kernel
theorem dX4_readFactor_16 : decode cX4_readFactor 16 = .ok (.iconst 1, 1) := by decide +kernel
theorem dX4_readFactor_17 : decode cX4_readFactor 17 = .ok (.ireturn, 1) := by decide +kernel
theorem dX4_readFactor_18 : decode cX4_readFactor 18 = .ok (.iload_n 2, 1) := by decide +kernel
theorem dX4_readFactor_19 : decode cX4_readFactor 19 = .ok (.bipush 97, 2) := by decide +kernel
theorem dX4_readFactor_21 : decode cX4_readFactor 21 = .ok (.if_icmp .lt 16, 3) := by decide +kernel
theorem dX4_readFactor_24 : decode cX4_readFactor 24 = .ok (.iload_n 2, 1) := by decide +kernel
theorem dX4_readFactor_25 : decode cX4_readFactor 25 = .ok (.bipush 102, 2) := by decide +kernel
theorem dX4_readFactor_27 : decode cX4_readFactor 27 = .ok (.if_icmp .gt 10, 3) := by decide +kernel
theorem dX4_readFactor_30 : decode cX4_readFactor 30 = .ok (.aload_n 0, 1) := by decide +kernel
theorem dX4_readFactor_31 : decode cX4_readFactor 31 = .ok (.iload_n 2, 1) := by decide +kernel
theorem dX4_readFactor_32 : decode cX4_readFactor 32 = .ok (.invokevirtual 83, 3) := by decide +kernel
theorem dX4_readFactor_35 : decode cX4_readFactor 35 = .ok (.iconst 1, 1) := by decide +kernel
theorem dX4_readFactor_36 : decode cX4_readFactor 36 = .ok (.ireturn, 1) := by decide +kernel
theorem dX4_readFactor_37 : decode cX4_readFactor 37 = .ok (.iload_n 2, 1) := by decide +kernel
theorem dX4_readFactor_38 : decode cX4_readFactor 38 = .ok (.bipush 40, 2) := by decide +kernel
theorem dX4_readFactor_40 : decode cX4_readFactor 40 = .ok (.if_icmp .eq 9, 3) := by decide +kernel
theorem dX4_readFactor_43 : decode cX4_readFactor 43 = .ok (.iload_n 2, 1) := by decide +kernel
theorem dX4_readFactor_44 : decode cX4_readFactor 44 = .ok (.bipush 33, 2) := by decide +kernel
theorem dX4_readFactor_46 : decode cX4_readFactor 46 = .ok (.if_icmp .ne 9, 3) := by decide +kernel
theorem dX4_readFactor_49 : decode cX4_readFactor 49 = .ok (.iload_n 1, 1) := by decide +kernel
theorem dX4_readFactor_50 : decode cX4_readFactor 50 = .ok (.bipush 6, 2) := by decide +kernel
theorem dX4_readFactor_52 : decode cX4_readFactor 52 = .ok (.if_icmp .lt 5, 3) := by decide +kernel
theorem dX4_readFactor_55 : decode cX4_readFactor 55 = .ok (.iconst 0, 1) := by decide +kernel
theorem dX4_readFactor_56 : decode cX4_readFactor 56 = .ok (.ireturn, 1) := by decide +kernel
theorem dX4_readFactor_57 : decode cX4_readFactor 57 = .ok (.aload_n 0, 1) := by decide +kernel
theorem dX4_readFactor_58 : decode cX4_readFactor 58 = .ok (.dup, 1) := by decide +kernel
theorem dX4_readFactor_59 : decode cX4_readFactor 59 = .ok (.getfield 19, 3) := by decide +kernel
theorem dX4_readFactor_62 : decode cX4_readFactor 62 = .ok (.iconst 1, 1) := by decide +kernel
theorem dX4_readFactor_63 : decode cX4_readFactor 63 = .ok (.iadd, 1) := by decide +kernel
theorem dX4_readFactor_64 : decode cX4_readFactor 64 = .ok (.putfield 19, 3) := by decide +kernel
theorem dX4_readFactor_67 : decode cX4_readFactor 67 = .ok (.iload_n 2, 1) := by decide +kernel
theorem dX4_readFactor_68 : decode cX4_readFactor 68 = .ok (.bipush 33, 2) := by decide +kernel
theorem dX4_readFactor_70 : decode cX4_readFactor 70 = .ok (.if_icmp .ne 13, 3) := by decide +kernel
theorem dX4_readFactor_73 : decode cX4_readFactor 73 = .ok (.aload_n 0, 1) := by decide +kernel
theorem dX4_readFactor_74 : decode cX4_readFactor 74 = .ok (.iload_n 1, 1) := by decide +kernel
theorem dX4_readFactor_75 : decode cX4_readFactor 75 = .ok (.iconst 1, 1) := by decide +kernel
theorem dX4_readFactor_76 : decode cX4_readFactor 76 = .ok (.iadd, 1) := by decide +kernel
theorem dX4_readFactor_77 : decode cX4_readFactor 77 = .ok (.invokevirtual 86, 3) := by decide +kernel
theorem dX4_readFactor_80 : decode cX4_readFactor 80 = .ok (.goto 10, 3) := by decide +kernel
theorem dX4_readFactor_83 : decode cX4_readFactor 83 = .ok (.aload_n 0, 1) := by decide +kernel
theorem dX4_readFactor_84 : decode cX4_readFactor 84 = .ok (.iload_n 1, 1) := by decide +kernel
theorem dX4_readFactor_85 : decode cX4_readFactor 85 = .ok (.iconst 1, 1) := by decide +kernel
theorem dX4_readFactor_86 : decode cX4_readFactor 86 = .ok (.iadd, 1) := by decide +kernel
theorem dX4_readFactor_87 : decode cX4_readFactor 87 = .ok (.invokevirtual 89, 3) := by decide +kernel
theorem dX4_readFactor_90 : decode cX4_readFactor 90 = .ok (.ireturn, 1) := by decide +kernel
theorem dX4_readNot_0 : decode cX4_readNot 0 = .ok (.aload_n 0, 1) := by decide +kernel
theorem dX4_readNot_1 : decode cX4_readNot 1 = .ok (.bipush 33, 2) := by decide +kernel
theorem dX4_readNot_3 : decode cX4_readNot 3 = .ok (.invokevirtual 69, 3) := by decide +kernel
theorem dX4_readNot_6 : decode cX4_readNot 6 = .ok (.aload_n 0, 1) := by decide +kernel
theorem dX4_readNot_7 : decode cX4_readNot 7 = .ok (.iload_n 1, 1) := by decide +kernel
theorem dX4_readNot_8 : decode cX4_readNot 8 = .ok (.invokevirtual 53, 3) := by decide +kernel
theorem dX4_readNot_11 : decode cX4_readNot 11 = .ok (.ifCond .ne 5, 3) := by decide +kernel
theorem dX4_readNot_14 : decode cX4_readNot 14 = .ok (.iconst 0, 1) := by decide +kernel
theorem dX4_readNot_15 : decode cX4_readNot 15 = .ok (.ireturn, 1) := by decide +kernel
theorem dX4_readNot_16 : decode cX4_readNot 16 = .ok (.aload_n 0, 1) := by decide +kernel
theorem dX4_readNot_17 : decode cX4_readNot 17 = .ok (.bipush (-33), 2) := by decide +kernel
theorem dX4_readNot_19 : decode cX4_readNot 19 = .ok (.invokevirtual 73, 3) := by decide +kernel
theorem dX4_readNot_22 : decode cX4_readNot 22 = .ok (.iconst 1, 1) := by decide +kernel
theorem dX4_readNot_23 : decode cX4_readNot 23 = .ok (.ireturn, 1) := by decide +kernel
theorem dX4_readBracket_0 : decode cX4_readBracket 0 = .ok (.aload_n 0, 1) := by decide +kernel
theorem dX4_readBracket_1 : decode cX4_readBracket 1 = .ok (.iconst 0, 1) := by decide +kernel
theorem dX4_readBracket_2 : decode cX4_readBracket 2 = .ok (.iload_n 1, 1) := by decide +kernel
theorem dX4_readBracket_3 : decode cX4_readBracket 3 = .ok (.invokevirtual 38, 3) := by decide +kernel
theorem dX4_readBracket_6 : decode cX4_readBracket 6 = .ok (.ifCond .eq 12, 3) := by decide +kernel
theorem dX4_readBracket_9 : decode cX4_readBracket 9 = .ok (.aload_n 0, 1) := by decide +kernel
theorem dX4_readBracket_10 : decode cX4_readBracket 10 = .ok (.invokevirtual 57, 3) := by decide +kernel
theorem dX4_readBracket_13 : decode cX4_readBracket 13 = .ok (.bipush 41, 2) := by decide +kernel
theorem dX4_readBracket_15 : decode cX4_readBracket 15 = .ok (.if_icmp .eq 5, 3) := by decide +kernel
theorem dX4_readBracket_18 : decode cX4_readBracket 18 = .ok (.iconst 0, 1) := by decide +kernel
theorem dX4_readBracket_19 : decode cX4_readBracket 19 = .ok (.ireturn, 1) := by decide +kernel
theorem dX4_readBracket_20 : decode cX4_readBracket 20 = .ok (.aload_n 0, 1) := by decide +kernel
theorem dX4_readBracket_21 : decode cX4_readBracket 21 = .ok (.dup, 1) := by decide +kernel
theorem dX4_readBracket_22 : decode cX4_readBracket 22 = .ok (.getfield 19, 3) := by decide +kernel
theorem dX4_readBracket_25 : decode cX4_readBracket 25 = .ok (.iconst 1, 1) := by decide +kernel
theorem dX4_readBracket_26 : decode cX4_readBracket 26 = .ok (.iadd, 1) := by decide +kernel
theorem dX4_readBracket_27 : decode cX4_readBracket 27 = .ok (.putfield 19, 3) := by decide +kernel
theorem dX4_readBracket_30 : decode cX4_readBracket 30 = .ok (.iconst 1, 1) := by decide +kernel
theorem dX4_readBracket_31 : decode cX4_readBracket 31 = .ok (.ireturn, 1) := by decide +kernel
theorem dX4_readNumber_0 : decode cX4_readNumber 0 = .ok (.iconst 0, 1) := by decide +kernel
theorem dX4_readNumber_1 : decode cX4_readNumber 1 = .ok (.istore_n 1, 1) := by decide +kernel
theorem dX4_readNumber_2 : decode cX4_readNumber 2 = .ok (.iconst 0, 1) := by decide +kernel
theorem dX4_readNumber_3 : decode cX4_readNumber 3 = .ok (.istore_n 2, 1) := by decide +kernel
theorem dX4_readNumber_4 : decode cX4_readNumber 4 = .ok (.iload_n 2, 1) := by decide +kernel
theorem dX4_readNumber_5 : decode cX4_readNumber 5 = .ok (.iconst 3, 1) := by decide +kernel
theorem dX4_readNumber_6 : decode cX4_readNumber 6 = .ok (.if_icmp .ge 58, 3) := by decide +kernel
theorem dX4_readNumber_9 : decode cX4_readNumber 9 = .ok (.aload_n 0, 1) := by decide +kernel
theorem dX4_readNumber_10 : decode cX4_readNumber 10 = .ok (.invokevirtual 57, 3) := by decide +kernel
theorem dX4_readNumber_13 : decode cX4_readNumber 13 = .ok (.invokestatic 76, 3) := by decide +kernel
theorem dX4_readNumber_16 : decode cX4_readNumber 16 = .ok (.ifCond .eq 48, 3) := by decide +kernel
theorem dX4_readNumber_19 : decode cX4_readNumber 19 = .ok (.iload_n 2, 1) := by decide +kernel
theorem dX4_readNumber_20 : decode cX4_readNumber 20 = .ok (.ifCond .eq 7, 3) := by decide +kernel
theorem dX4_readNumber_23 : decode cX4_readNumber 23 = .ok (.iload_n 1, 1) := by decide +kernel
theorem dX4_readNumber_24 : decode cX4_readNumber 24 = .ok (.ifCond .le 40, 3) := by decide +kernel
theorem dX4_readNumber_27 : decode cX4_readNumber 27 = .ok (.iload_n 1, 1) := by decide +kernel
theorem dX4_readNumber_28 : decode cX4_readNumber 28 = .ok (.bipush 10, 2) := by decide +kernel
theorem dX4_readNumber_30 : decode cX4_readNumber 30 = .ok (.imul, 1) := by decide +kernel
theorem dX4_readNumber_31 : decode cX4_readNumber 31 = .ok (.aload_n 0, 1) := by decide +kernel
theorem dX4_readNumber_32 : decode cX4_readNumber 32 = .ok (.invokevirtual 57, 3) := by decide +kernel
theorem dX4_readNumber_35 : decode cX4_readNumber 35 = .ok (.bipush 48, 2) := by decide +kernel
theorem dX4_readNumber_37 : decode cX4_readNumber 37 = .ok (.isub, 1) := by decide +kernel
theorem dX4_readNumber_38 : decode cX4_readNumber 38 = .ok (.iadd, 1) := by decide +kernel
theorem dX4_readNumber_39 : decode cX4_readNumber 39 = .ok (.istore_n 1, 1) := by decide +kernel
theorem dX4_readNumber_40 : decode cX4_readNumber 40 = .ok (.aload_n 0, 1) := by decide +kernel
theorem dX4_readNumber_41 : decode cX4_readNumber 41 = .ok (.aload_n 0, 1) := by decide +kernel
theorem dX4_readNumber_42 : decode cX4_readNumber 42 = .ok (.invokevirtual 57, 3) := by decide +kernel
theorem dX4_readNumber_45 : decode cX4_readNumber 45 = .ok (.invokevirtual 69, 3) := by decide +kernel
theorem dX4_readNumber_48 : decode cX4_readNumber 48 = .ok (.aload_n 0, 1) := by decide +kernel
theorem dX4_readNumber_49 : decode cX4_readNumber 49 = .ok (.dup, 1) := by decide +kernel
theorem dX4_readNumber_50 : decode cX4_readNumber 50 = .ok (.getfield 19, 3) := by decide +kernel
theorem dX4_readNumber_53 : decode cX4_readNumber 53 = .ok (.iconst 1, 1) := by decide +kernel
theorem dX4_readNumber_54 : decode cX4_readNumber 54 = .ok (.iadd, 1) := by decide +kernel
theorem dX4_readNumber_55 : decode cX4_readNumber 55 = .ok (.putfield 19, 3) := by decide +kernel
theorem dX4_readNumber_58 : decode cX4_readNumber 58 = .ok (.iinc 2 1, 3) := by decide +kernel
theorem dX4_readNumber_61 : decode cX4_readNumber 61 = .ok (.goto (-57), 3) := by decide +kernel
theorem dX4_readNumber_64 : decode cX4_readNumber 64 = .ok (.aload_n 0, 1) := by decide +kernel
theorem dX4_readNumber_65 : decode cX4_readNumber 65 = .ok (.iload_n 1, 1) := by decide +kernel
theorem dX4_readNumber_66 : decode cX4_readNumber 66 = .ok (.invokevirtual 73, 3) := by decide +kernel
theorem dX4_readNumber_69 : decode cX4_readNumber 69 = .ok (.return_, 1) := by decide +kernel
theorem dX4_readLetter_0 : decode cX4_readLetter 0 = .ok (.iload_n 1, 1) := by decide +kernel
theorem dX4_readLetter_1 : decode cX4_readLetter 1 = .ok (.bipush 97, 2) := by decide +kernel
theorem dX4_readLetter_3 : decode cX4_readLetter 3 = .ok (.isub, 1) := by decide +kernel
theorem dX4_readLetter_4 : decode cX4_readLetter 4 = .ok (.istore_n 2, 1) := by decide +kernel
theorem dX4_readLetter_5 : decode cX4_readLetter 5 = .ok (.aload_n 0, 1) := by decide +kernel
theorem dX4_readLetter_6 : decode cX4_readLetter 6 = .ok (.dup, 1) := by decide +kernel
theorem dX4_readLetter_7 : decode cX4_readLetter 7 = .ok (.getfield 35, 3) := by decide +kernel
theorem dX4_readLetter_10 : decode cX4_readLetter 10 = .ok (.iconst 1, 1) := by decide +kernel
theorem dX4_readLetter_11 : decode cX4_readLetter 11 = .ok (.iload_n 2, 1) := by decide +kernel
theorem dX4_readLetter_12 : decode cX4_readLetter 12 = .ok (.ishl, 1) := by decide +kernel
theorem dX4_readLetter_13 : decode cX4_readLetter 13 = .ok (.ior, 1) := by decide +kernel
theorem dX4_readLetter_14 : decode cX4_readLetter 14 = .ok (.putfield 35, 3) := by decide +kernel
theorem dX4_readLetter_17 : decode cX4_readLetter 17 = .ok (.aload_n 0, 1) := by decide +kernel
theorem dX4_readLetter_18 : decode cX4_readLetter 18 = .ok (.iload_n 1, 1) := by decide +kernel
theorem dX4_readLetter_19 : decode cX4_readLetter 19 = .ok (.invokevirtual 69, 3) := by decide +kernel
theorem dX4_readLetter_22 : decode cX4_readLetter 22 = .ok (.aload_n 0, 1) := by decide +kernel
theorem dX4_readLetter_23 : decode cX4_readLetter 23 = .ok (.sipush 1000, 3) := by decide +kernel
theorem dX4_readLetter_26 : decode cX4_readLetter 26 = .ok (.iload_n 2, 1) := by decide +kernel
theorem dX4_readLetter_27 : decode cX4_readLetter 27 = .ok (.iadd, 1) := by decide +kernel
theorem dX4_readLetter_28 : decode cX4_readLetter 28 = .ok (.invokevirtual 73, 3) := by decide +kernel
theorem dX4_readLetter_31 : decode cX4_readLetter 31 = .ok (.aload_n 0, 1) := by decide +kernel
theorem dX4_readLetter_32 : decode cX4_readLetter 32 = .ok (.dup, 1) := by decide +kernel
theorem dX4_readLetter_33 : decode cX4_readLetter 33 = .ok (.getfield 19, 3) := by decide +kernel
theorem dX4_readLetter_36 : decode cX4_readLetter 36 = .ok (.iconst 1, 1) := by decide +kernel
theorem dX4_readLetter_37 : decode cX4_readLetter 37 = .ok (.iadd, 1) := by decide +kernel
theorem dX4_readLetter_38 : decode cX4_readLetter 38 = .ok (.putfield 19, 3) := by decide +kernel
theorem dX4_readLetter_41 : decode cX4_readLetter 41 = .ok (.return_, 1) := by decide +kernel
theorem dX4_next_0 : decode cX4_next 0 = .ok (.aload_n 0, 1) := by decide +kernel
theorem dX4_next_1 : decode cX4_next 1 = .ok (.getfield 19, 3) := by decide +kernel
theorem dX4_next_4 : decode cX4_next 4 = .ok (.ifCond .lt 38, 3) := by decide +kernel
theorem dX4_next_7 : decode cX4_next 7 = .ok (.aload_n 0, 1) := by decide +kernel
theorem dX4_next_8 : decode cX4_next 8 = .ok (.getfield 19, 3) := by decide +kernel
theorem dX4_next_11 : decode cX4_next 11 = .ok (.aload_n 0, 1) := by decide +kernel
theorem dX4_next_12 : decode cX4_next 12 = .ok (.getfield 15, 3) := by decide +kernel
theorem dX4_next_15 : decode cX4_next 15 = .ok (.if_icmp .ge 27, 3) := by decide +kernel
theorem dX4_next_18 : decode cX4_next 18 = .ok (.aload_n 0, 1) := by decide +kernel
theorem dX4_next_19 : decode cX4_next 19 = .ok (.getfield 19, 3) := by decide +kernel
theorem dX4_next_22 : decode cX4_next 22 = .ok (.aload_n 0, 1) := by decide +kernel
theorem dX4_next_23 : decode cX4_next 23 = .ok (.getfield 9, 3) := by decide +kernel
theorem dX4_next_26 : decode cX4_next 26 = .ok (.arraylength, 1) := by decide +kernel
theorem dX4_next_27 : decode cX4_next 27 = .ok (.if_icmp .ge 15, 3) := by decide +kernel
theorem dX4_next_30 : decode cX4_next 30 = .ok (.aload_n 0, 1) := by decide +kernel
theorem dX4_next_31 : decode cX4_next 31 = .ok (.getfield 9, 3) := by decide +kernel
theorem dX4_next_34 : decode cX4_next 34 = .ok (.aload_n 0, 1) := by decide +kernel
theorem dX4_next_35 : decode cX4_next 35 = .ok (.getfield 19, 3) := by decide +kernel
theorem dX4_next_38 : decode cX4_next 38 = .ok (.caload, 1) := by decide +kernel
theorem dX4_next_39 : decode cX4_next 39 = .ok (.goto 4, 3) := by decide +kernel
theorem dX4_next_42 : decode cX4_next 42 = .ok (.iconst 0, 1) := by decide +kernel
theorem dX4_next_43 : decode cX4_next 43 = .ok (.ireturn, 1) := by decide +kernel
theorem dX4_isDigit_0 : decode cX4_isDigit 0 = .ok (.iload_n 0, 1) := by decide +kernel
theorem dX4_isDigit_1 : decode cX4_isDigit 1 = .ok (.bipush 48, 2) := by decide +kernel
theorem dX4_isDigit_3 : decode cX4_isDigit 3 = .ok (.if_icmp .lt 13, 3) := by decide +kernel
theorem dX4_isDigit_6 : decode cX4_isDigit 6 = .ok (.iload_n 0, 1) := by decide +kernel
theorem dX4_isDigit_7 : decode cX4_isDigit 7 = .ok (.bipush 57, 2) := by decide +kernel
theorem dX4_isDigit_9 : decode cX4_isDigit 9 = .ok (.if_icmp .gt 7, 3) := by decide +kernel
theorem dX4_isDigit_12 : decode cX4_isDigit 12 = .ok (.iconst 1, 1) := by decide +kernel
theorem dX4_isDigit_13 : decode cX4_isDigit 13 = .ok (.goto 4, 3) := by decide +kernel
theorem dX4_isDigit_16 : decode cX4_isDigit 16 = .ok (.iconst 0, 1) := by decide +kernel
theorem dX4_isDigit_17 : decode cX4_isDigit 17 = .ok (.ireturn, 1) := by decide +kernel
theorem dX4_levelOf_0 : decode cX4_levelOf 0 = .ok (.iload_n 0, 1) := by decide +kernel
theorem dX4_levelOf_1 : decode cX4_levelOf 1 = .ok (.lookupswitch 85 #[(38, 77), (42, 83), (43, 81), (45, 81), (60, 79), (61, 79), (62, 79), (124, 75)], 75) := by decide +kernel
theorem dX4_levelOf_76 : decode cX4_levelOf 76 = .ok (.iconst 0, 1) := by decide +kernel
theorem dX4_levelOf_77 : decode cX4_levelOf 77 = .ok (.ireturn, 1) := by decide +kernel
theorem dX4_levelOf_78 : decode cX4_levelOf 78 = .ok (.iconst 1, 1) := by decide +kernel
theorem dX4_levelOf_79 : decode cX4_levelOf 79 = .ok (.ireturn, 1) := by decide +kernel
theorem dX4_levelOf_80 : decode cX4_levelOf 80 = .ok (.iconst 2, 1) := by decide +kernel
theorem dX4_levelOf_81 : decode cX4_levelOf 81 = .ok (.ireturn, 1) := by decide +kernel
theorem dX4_levelOf_82 : decode cX4_levelOf 82 = .ok (.iconst 3, 1) := by decide +kernel
theorem dX4_levelOf_83 : decode cX4_levelOf 83 = .ok (.ireturn, 1) := by decide +kernel
theorem dX4_levelOf_84 : decode cX4_levelOf 84 = .ok (.iconst 4, 1) := by decide +kernel
theorem dX4_levelOf_85 : decode cX4_levelOf 85 = .ok (.ireturn, 1) := by decide +kernel
theorem dX4_levelOf_86 : decode cX4_levelOf 86 = .ok (.iconst (-1), 1) := by decide +kernel
theorem dX4_levelOf_87 : decode cX4_levelOf 87 = .ok (.ireturn, 1) := by decide +kernel
theorem dX4_addStep_0 : decode cX4_addStep 0 = .ok (.aload_n 0, 1) := by decide +kernel
theorem dX4_addStep_1 : decode cX4_addStep 1 = .ok (.getfield 26, 3) := by decide +kernel
theorem dX4_addStep_4 : decode cX4_addStep 4 = .ok (.aload_n 0, 1) := by decide +kernel
theorem dX4_addStep_5 : decode cX4_addStep 5 = .ok (.getfield 22, 3) := by decide +kernel
theorem dX4_addStep_8 : decode cX4_addStep 8 = .ok (.arraylength, 1) := by decide +kernel
theorem dX4_addStep_9 : decode cX4_addStep 9 = .ok (.if_icmp .ge 23, 3) := by decide +kernel
theorem dX4_addStep_12 : decode cX4_addStep 12 = .ok (.aload_n 0, 1) := by decide +kernel
theorem dX4_addStep_13 : decode cX4_addStep 13 = .ok (.getfield 22, 3) := by decide +kernel
theorem dX4_addStep_16 : decode cX4_addStep 16 = .ok (.aload_n 0, 1) := by decide +kernel
theorem dX4_addStep_17 : decode cX4_addStep 17 = .ok (.getfield 26, 3) := by decide +kernel
theorem dX4_addStep_20 : decode cX4_addStep 20 = .ok (.iload_n 1, 1) := by decide +kernel
theorem dX4_addStep_21 : decode cX4_addStep 21 = .ok (.iastore, 1) := by decide +kernel
theorem dX4_addStep_22 : decode cX4_addStep 22 = .ok (.aload_n 0, 1) := by decide +kernel
theorem dX4_addStep_23 : decode cX4_addStep 23 = .ok (.dup, 1) := by decide +kernel
theorem dX4_addStep_24 : decode cX4_addStep 24 = .ok (.getfield 26, 3) := by decide +kernel
theorem dX4_addStep_27 : decode cX4_addStep 27 = .ok (.iconst 1, 1) := by decide +kernel
theorem dX4_addStep_28 : decode cX4_addStep 28 = .ok (.iadd, 1) := by decide +kernel
theorem dX4_addStep_29 : decode cX4_addStep 29 = .ok (.putfield 26, 3) := by decide +kernel
theorem dX4_addStep_32 : decode cX4_addStep 32 = .ok (.return_, 1) := by decide +kernel
theorem dX4_writePlain_0 : decode cX4_writePlain 0 = .ok (.aload_n 0, 1) := by decide +kernel
theorem dX4_writePlain_1 : decode cX4_writePlain 1 = .ok (.getfield 32, 3) := by decide +kernel
theorem dX4_writePlain_4 : decode cX4_writePlain 4 = .ok (.aload_n 0, 1) := by decide +kernel
theorem dX4_writePlain_5 : decode cX4_writePlain 5 = .ok (.getfield 29, 3) := by decide +kernel
theorem dX4_writePlain_8 : decode cX4_writePlain 8 = .ok (.arraylength, 1) := by decide +kernel
theorem dX4_writePlain_9 : decode cX4_writePlain 9 = .ok (.if_icmp .ge 23, 3) := by decide +kernel
theorem dX4_writePlain_12 : decode cX4_writePlain 12 = .ok (.aload_n 0, 1) := by decide +kernel
theorem dX4_writePlain_13 : decode cX4_writePlain 13 = .ok (.getfield 29, 3) := by decide +kernel
theorem dX4_writePlain_16 : decode cX4_writePlain 16 = .ok (.aload_n 0, 1) := by decide +kernel
theorem dX4_writePlain_17 : decode cX4_writePlain 17 = .ok (.getfield 32, 3) := by decide +kernel
theorem dX4_writePlain_20 : decode cX4_writePlain 20 = .ok (.iload_n 1, 1) := by decide +kernel
theorem dX4_writePlain_21 : decode cX4_writePlain 21 = .ok (.iastore, 1) := by decide +kernel
theorem dX4_writePlain_22 : decode cX4_writePlain 22 = .ok (.aload_n 0, 1) := by decide +kernel
theorem dX4_writePlain_23 : decode cX4_writePlain 23 = .ok (.dup, 1) := by decide +kernel
theorem dX4_writePlain_24 : decode cX4_writePlain 24 = .ok (.getfield 32, 3) := by decide +kernel
theorem dX4_writePlain_27 : decode cX4_writePlain 27 = .ok (.iconst 1, 1) := by decide +kernel
theorem dX4_writePlain_28 : decode cX4_writePlain 28 = .ok (.iadd, 1) := by decide +kernel
theorem dX4_writePlain_29 : decode cX4_writePlain 29 = .ok (.putfield 32, 3) := by decide +kernel
theorem dX4_writePlain_32 : decode cX4_writePlain 32 = .ok (.return_, 1) := by decide +kernel
theorem dX4_openPlain_0 : decode cX4_openPlain 0 = .ok (.iload_n 1, 1) := by decide +kernel
theorem dX4_openPlain_1 : decode cX4_openPlain 1 = .ok (.ifCond .lt 15, 3) := by decide +kernel
theorem dX4_openPlain_4 : decode cX4_openPlain 4 = .ok (.aload_n 0, 1) := by decide +kernel
theorem dX4_openPlain_5 : decode cX4_openPlain 5 = .ok (.getfield 32, 3) := by decide +kernel
theorem dX4_openPlain_8 : decode cX4_openPlain 8 = .ok (.aload_n 0, 1) := by decide +kernel
theorem dX4_openPlain_9 : decode cX4_openPlain 9 = .ok (.getfield 29, 3) := by decide +kernel
theorem dX4_openPlain_12 : decode cX4_openPlain 12 = .ok (.arraylength, 1) := by decide +kernel
theorem dX4_openPlain_13 : decode cX4_openPlain 13 = .ok (.if_icmp .lt 4, 3) := by decide +kernel
theorem dX4_openPlain_16 : decode cX4_openPlain 16 = .ok (.return_, 1) := by decide +kernel
theorem dX4_openPlain_17 : decode cX4_openPlain 17 = .ok (.aload_n 0, 1) := by decide +kernel
theorem dX4_openPlain_18 : decode cX4_openPlain 18 = .ok (.getfield 32, 3) := by decide +kernel
theorem dX4_openPlain_21 : decode cX4_openPlain 21 = .ok (.istore_n 2, 1) := by decide +kernel
theorem dX4_openPlain_22 : decode cX4_openPlain 22 = .ok (.iload_n 2, 1) := by decide +kernel
theorem dX4_openPlain_23 : decode cX4_openPlain 23 = .ok (.iload_n 1, 1) := by decide +kernel
theorem dX4_openPlain_24 : decode cX4_openPlain 24 = .ok (.if_icmp .le 23, 3) := by decide +kernel
theorem dX4_openPlain_27 : decode cX4_openPlain 27 = .ok (.aload_n 0, 1) := by decide +kernel
theorem dX4_openPlain_28 : decode cX4_openPlain 28 = .ok (.getfield 29, 3) := by decide +kernel
theorem dX4_openPlain_31 : decode cX4_openPlain 31 = .ok (.iload_n 2, 1) := by decide +kernel
theorem dX4_openPlain_32 : decode cX4_openPlain 32 = .ok (.aload_n 0, 1) := by decide +kernel
theorem dX4_openPlain_33 : decode cX4_openPlain 33 = .ok (.getfield 29, 3) := by decide +kernel
theorem dX4_openPlain_36 : decode cX4_openPlain 36 = .ok (.iload_n 2, 1) := by decide +kernel
theorem dX4_openPlain_37 : decode cX4_openPlain 37 = .ok (.iconst 1, 1) := by decide +kernel
theorem dX4_openPlain_38 : decode cX4_openPlain 38 = .ok (.isub, 1) := by decide +kernel
theorem dX4_openPlain_39 : decode cX4_openPlain 39 = .ok (.iaload, 1) := by decide +kernel
theorem dX4_openPlain_40 : decode cX4_openPlain 40 = .ok (.iastore, 1) := by decide +kernel
theorem dX4_openPlain_41 : decode cX4_openPlain 41 = .ok (.iinc 2 (-1), 3) := by decide +kernel
theorem dX4_openPlain_44 : decode cX4_openPlain 44 = .ok (.goto (-22), 3) := by decide +kernel
theorem dX4_openPlain_47 : decode cX4_openPlain 47 = .ok (.aload_n 0, 1) := by decide +kernel
theorem dX4_openPlain_48 : decode cX4_openPlain 48 = .ok (.getfield 29, 3) := by decide +kernel
theorem dX4_openPlain_51 : decode cX4_openPlain 51 = .ok (.iload_n 1, 1) := by decide +kernel
theorem dX4_openPlain_52 : decode cX4_openPlain 52 = .ok (.bipush 40, 2) := by decide +kernel
theorem dX4_openPlain_54 : decode cX4_openPlain 54 = .ok (.iastore, 1) := by decide +kernel
theorem dX4_openPlain_55 : decode cX4_openPlain 55 = .ok (.aload_n 0, 1) := by decide +kernel
theorem dX4_openPlain_56 : decode cX4_openPlain 56 = .ok (.dup, 1) := by decide +kernel
theorem dX4_openPlain_57 : decode cX4_openPlain 57 = .ok (.getfield 32, 3) := by decide +kernel
theorem dX4_openPlain_60 : decode cX4_openPlain 60 = .ok (.iconst 1, 1) := by decide +kernel
theorem dX4_openPlain_61 : decode cX4_openPlain 61 = .ok (.iadd, 1) := by decide +kernel
theorem dX4_openPlain_62 : decode cX4_openPlain 62 = .ok (.putfield 32, 3) := by decide +kernel
theorem dX4_openPlain_65 : decode cX4_openPlain 65 = .ok (.return_, 1) := by decide +kernel
theorem dX5_init_0 : decode cX5_init 0 = .ok (.aload_n 0, 1) := by decide +kernel
theorem dX5_init_1 : decode cX5_init 1 = .ok (.invokespecial 3, 3) := by decide +kernel
theorem dX5_init_4 : decode cX5_init 4 = .ok (.aload_n 0, 1) := by decide +kernel
theorem dX5_init_5 : decode cX5_init 5 = .ok (.aload_n 1, 1) := by decide +kernel
theorem dX5_init_6 : decode cX5_init 6 = .ok (.putfield 9, 3) := by decide +kernel
theorem dX5_init_9 : decode cX5_init 9 = .ok (.return_, 1) := by decide +kernel
theorem dX5_copied_0 : decode cX5_copied 0 = .ok (.new 10, 3) := by decide +kernel
theorem dX5_copied_3 : decode cX5_copied 3 = .ok (.dup, 1) := by decide +kernel
theorem dX5_copied_4 : decode cX5_copied 4 = .ok (.aload_n 0, 1) := by decide +kernel
theorem dX5_copied_5 : decode cX5_copied 5 = .ok (.getfield 9, 3) := by decide +kernel
theorem dX5_copied_8 : decode cX5_copied 8 = .ok (.invokevirtual 15, 3) := by decide +kernel
theorem dX5_copied_11 : decode cX5_copied 11 = .ok (.checkcast 16, 3) := by decide +kernel
theorem dX5_copied_14 : decode cX5_copied 14 = .ok (.invokespecial 20, 3) := by decide +kernel
theorem dX5_copied_17 : decode cX5_copied 17 = .ok (.areturn, 1) := by decide +kernel
theorem dX5_at_0 : decode cX5_at 0 = .ok (.iload_n 1, 1) := by decide +kernel
theorem dX5_at_1 : decode cX5_at 1 = .ok (.ifCond .lt 21, 3) := by decide +kernel
theorem dX5_at_4 : decode cX5_at 4 = .ok (.iload_n 1, 1) := by decide +kernel
theorem dX5_at_5 : decode cX5_at 5 = .ok (.aload_n 0, 1) := by decide +kernel
theorem dX5_at_6 : decode cX5_at 6 = .ok (.getfield 9, 3) := by decide +kernel
theorem dX5_at_9 : decode cX5_at 9 = .ok (.arraylength, 1) := by decide +kernel
theorem dX5_at_10 : decode cX5_at 10 = .ok (.if_icmp .ge 12, 3) := by decide +kernel
theorem dX5_at_13 : decode cX5_at 13 = .ok (.aload_n 0, 1) := by decide +kernel
theorem dX5_at_14 : decode cX5_at 14 = .ok (.getfield 9, 3) := by decide +kernel
theorem dX5_at_17 : decode cX5_at 17 = .ok (.iload_n 1, 1) := by decide +kernel
theorem dX5_at_18 : decode cX5_at 18 = .ok (.iaload, 1) := by decide +kernel
theorem dX5_at_19 : decode cX5_at 19 = .ok (.goto 4, 3) := by decide +kernel
theorem dX5_at_22 : decode cX5_at 22 = .ok (.iconst 0, 1) := by decide +kernel
theorem dX5_at_23 : decode cX5_at 23 = .ok (.ireturn, 1) := by decide +kernel
theorem dX5_give_0 : decode cX5_give 0 = .ok (.iload_n 1, 1) := by decide +kernel
theorem dX5_give_1 : decode cX5_give 1 = .ok (.ifCond .lt 19, 3) := by decide +kernel
theorem dX5_give_4 : decode cX5_give 4 = .ok (.iload_n 1, 1) := by decide +kernel
theorem dX5_give_5 : decode cX5_give 5 = .ok (.aload_n 0, 1) := by decide +kernel
theorem dX5_give_6 : decode cX5_give 6 = .ok (.getfield 9, 3) := by decide +kernel
theorem dX5_give_9 : decode cX5_give 9 = .ok (.arraylength, 1) := by decide +kernel
theorem dX5_give_10 : decode cX5_give 10 = .ok (.if_icmp .ge 10, 3) := by decide +kernel
theorem dX5_give_13 : decode cX5_give 13 = .ok (.aload_n 0, 1) := by decide +kernel
theorem dX5_give_14 : decode cX5_give 14 = .ok (.getfield 9, 3) := by decide +kernel
theorem dX5_give_17 : decode cX5_give 17 = .ok (.iload_n 1, 1) := by decide +kernel
theorem dX5_give_18 : decode cX5_give 18 = .ok (.iload_n 2, 1) := by decide +kernel
theorem dX5_give_19 : decode cX5_give 19 = .ok (.iastore, 1) := by decide +kernel
theorem dX5_give_20 : decode cX5_give 20 = .ok (.return_, 1) := by decide +kernel
theorem dX5_ofNumber_0 : decode cX5_ofNumber 0 = .ok (.iconst 1, 1) := by decide +kernel
theorem dX5_ofNumber_1 : decode cX5_ofNumber 1 = .ok (.ireturn, 1) := by decide +kernel
theorem dX5_ofField_0 : decode cX5_ofField 0 = .ok (.aload_n 0, 1) := by decide +kernel
theorem dX5_ofField_1 : decode cX5_ofField 1 = .ok (.iload_n 1, 1) := by decide +kernel
theorem dX5_ofField_2 : decode cX5_ofField 2 = .ok (.invokevirtual 23, 3) := by decide +kernel
theorem dX5_ofField_5 : decode cX5_ofField 5 = .ok (.istore_n 2, 1) := by decide +kernel
theorem dX5_ofField_6 : decode cX5_ofField 6 = .ok (.iload_n 2, 1) := by decide +kernel
theorem dX5_ofField_7 : decode cX5_ofField 7 = .ok (.ifCond .ne 7, 3) := by decide +kernel
theorem dX5_ofField_10 : decode cX5_ofField 10 = .ok (.iconst (-1), 1) := by decide +kernel
theorem dX5_ofField_11 : decode cX5_ofField 11 = .ok (.goto 4, 3) := by decide +kernel
theorem dX5_ofField_14 : decode cX5_ofField 14 = .ok (.iload_n 2, 1) := by decide +kernel
theorem dX5_ofField_15 : decode cX5_ofField 15 = .ok (.ireturn, 1) := by decide +kernel
theorem dX5_ofNot_0 : decode cX5_ofNot 0 = .ok (.iload_n 1, 1) := by decide +kernel
theorem dX5_ofNot_1 : decode cX5_ofNot 1 = .ok (.iconst 2, 1) := by decide +kernel
theorem dX5_ofNot_2 : decode cX5_ofNot 2 = .ok (.if_icmp .ne 7, 3) := by decide +kernel
theorem dX5_ofNot_5 : decode cX5_ofNot 5 = .ok (.iconst 2, 1) := by decide +kernel
theorem dX5_ofNot_6 : decode cX5_ofNot 6 = .ok (.goto 4, 3) := by decide +kernel
theorem dX5_ofNot_9 : decode cX5_ofNot 9 = .ok (.iconst (-1), 1) := by decide +kernel
theorem dX5_ofNot_10 : decode cX5_ofNot 10 = .ok (.ireturn, 1) := by decide +kernel
theorem dX5_ofSign_0 : decode cX5_ofSign 0 = .ok (.iload_n 1, 1) := by decide +kernel
theorem dX5_ofSign_1 : decode cX5_ofSign 1 = .ok (.lookupswitch 105 #[(42, 59), (43, 59), (45, 59), (60, 75), (61, 91), (62, 75)], 59) := by decide +kernel
theorem dX5_ofSign_60 : decode cX5_ofSign 60 = .ok (.iload_n 2, 1) := by decide +kernel
theorem dX5_ofSign_61 : decode cX5_ofSign 61 = .ok (.iconst 1, 1) := by decide +kernel
theorem dX5_ofSign_62 : decode cX5_ofSign 62 = .ok (.if_icmp .ne 12, 3) := by decide +kernel
theorem dX5_ofSign_65 : decode cX5_ofSign 65 = .ok (.iload_n 3, 1) := by decide +kernel
theorem dX5_ofSign_66 : decode cX5_ofSign 66 = .ok (.iconst 1, 1) := by decide +kernel
theorem dX5_ofSign_67 : decode cX5_ofSign 67 = .ok (.if_icmp .ne 7, 3) := by decide +kernel
theorem dX5_ofSign_70 : decode cX5_ofSign 70 = .ok (.iconst 1, 1) := by decide +kernel
theorem dX5_ofSign_71 : decode cX5_ofSign 71 = .ok (.goto 4, 3) := by decide +kernel
theorem dX5_ofSign_74 : decode cX5_ofSign 74 = .ok (.iconst (-1), 1) := by decide +kernel
theorem dX5_ofSign_75 : decode cX5_ofSign 75 = .ok (.ireturn, 1) := by decide +kernel
theorem dX5_ofSign_76 : decode cX5_ofSign 76 = .ok (.iload_n 2, 1) := by decide +kernel
theorem dX5_ofSign_77 : decode cX5_ofSign 77 = .ok (.iconst 1, 1) := by decide +kernel
theorem dX5_ofSign_78 : decode cX5_ofSign 78 = .ok (.if_icmp .ne 12, 3) := by decide +kernel
theorem dX5_ofSign_81 : decode cX5_ofSign 81 = .ok (.iload_n 3, 1) := by decide +kernel
theorem dX5_ofSign_82 : decode cX5_ofSign 82 = .ok (.iconst 1, 1) := by decide +kernel
theorem dX5_ofSign_83 : decode cX5_ofSign 83 = .ok (.if_icmp .ne 7, 3) := by decide +kernel
theorem dX5_ofSign_86 : decode cX5_ofSign 86 = .ok (.iconst 2, 1) := by decide +kernel
theorem dX5_ofSign_87 : decode cX5_ofSign 87 = .ok (.goto 4, 3) := by decide +kernel
theorem dX5_ofSign_90 : decode cX5_ofSign 90 = .ok (.iconst (-1), 1) := by decide +kernel
theorem dX5_ofSign_91 : decode cX5_ofSign 91 = .ok (.ireturn, 1) := by decide +kernel
theorem dX5_ofSign_92 : decode cX5_ofSign 92 = .ok (.iload_n 2, 1) := by decide +kernel
theorem dX5_ofSign_93 : decode cX5_ofSign 93 = .ok (.iload_n 3, 1) := by decide +kernel
theorem dX5_ofSign_94 : decode cX5_ofSign 94 = .ok (.invokestatic 27, 3) := by decide +kernel
theorem dX5_ofSign_97 : decode cX5_ofSign 97 = .ok (.ifCond .eq 7, 3) := by decide +kernel
theorem dX5_ofSign_100 : decode cX5_ofSign 100 = .ok (.iconst 2, 1) := by decide +kernel
theorem dX5_ofSign_101 : decode cX5_ofSign 101 = .ok (.goto 4, 3) := by decide +kernel
theorem dX5_ofSign_104 : decode cX5_ofSign 104 = .ok (.iconst (-1), 1) := by decide +kernel
theorem dX5_ofSign_105 : decode cX5_ofSign 105 = .ok (.ireturn, 1) := by decide +kernel
theorem dX5_ofSign_106 : decode cX5_ofSign 106 = .ok (.iload_n 2, 1) := by decide +kernel
theorem dX5_ofSign_107 : decode cX5_ofSign 107 = .ok (.iconst 2, 1) := by decide +kernel
theorem dX5_ofSign_108 : decode cX5_ofSign 108 = .ok (.if_icmp .ne 12, 3) := by decide +kernel
theorem dX5_ofSign_111 : decode cX5_ofSign 111 = .ok (.iload_n 3, 1) := by decide +kernel
theorem dX5_ofSign_112 : decode cX5_ofSign 112 = .ok (.iconst 2, 1) := by decide +kernel
theorem dX5_ofSign_113 : decode cX5_ofSign 113 = .ok (.if_icmp .ne 7, 3) := by decide +kernel
theorem dX5_ofSign_116 : decode cX5_ofSign 116 = .ok (.iconst 2, 1) := by decide +kernel
theorem dX5_ofSign_117 : decode cX5_ofSign 117 = .ok (.goto 4, 3) := by decide +kernel
theorem dX5_ofSign_120 : decode cX5_ofSign 120 = .ok (.iconst (-1), 1) := by decide +kernel
theorem dX5_ofSign_121 : decode cX5_ofSign 121 = .ok (.ireturn, 1) := by decide +kernel
theorem dX5_areAlike_0 : decode cX5_areAlike 0 = .ok (.iload_n 0, 1) := by decide +kernel
theorem dX5_areAlike_1 : decode cX5_areAlike 1 = .ok (.iload_n 1, 1) := by decide +kernel
theorem dX5_areAlike_2 : decode cX5_areAlike 2 = .ok (.if_icmp .ne 14, 3) := by decide +kernel
theorem dX5_areAlike_5 : decode cX5_areAlike 5 = .ok (.iload_n 0, 1) := by decide +kernel
theorem dX5_areAlike_6 : decode cX5_areAlike 6 = .ok (.iconst (-1), 1) := by decide +kernel
theorem dX5_areAlike_7 : decode cX5_areAlike 7 = .ok (.if_icmp .eq 7, 3) := by decide +kernel
theorem dX5_areAlike_10 : decode cX5_areAlike 10 = .ok (.iconst 1, 1) := by decide +kernel
theorem dX5_areAlike_11 : decode cX5_areAlike 11 = .ok (.goto 4, 3) := by decide +kernel
theorem dX5_areAlike_14 : decode cX5_areAlike 14 = .ok (.iconst 0, 1) := by decide +kernel
theorem dX5_areAlike_15 : decode cX5_areAlike 15 = .ok (.ireturn, 1) := by decide +kernel
theorem dX5_areAlike_16 : decode cX5_areAlike 16 = .ok (.iload_n 0, 1) := by decide +kernel
theorem dX5_areAlike_17 : decode cX5_areAlike 17 = .ok (.iconst 1, 1) := by decide +kernel
theorem dX5_areAlike_18 : decode cX5_areAlike 18 = .ok (.if_icmp .ne 8, 3) := by decide +kernel
theorem dX5_areAlike_21 : decode cX5_areAlike 21 = .ok (.iload_n 1, 1) := by decide +kernel
theorem dX5_areAlike_22 : decode cX5_areAlike 22 = .ok (.iconst 3, 1) := by decide +kernel
theorem dX5_areAlike_23 : decode cX5_areAlike 23 = .ok (.if_icmp .eq 13, 3) := by decide +kernel
theorem dX5_areAlike_26 : decode cX5_areAlike 26 = .ok (.iload_n 0, 1) := by decide +kernel
theorem dX5_areAlike_27 : decode cX5_areAlike 27 = .ok (.iconst 3, 1) := by decide +kernel
theorem dX5_areAlike_28 : decode cX5_areAlike 28 = .ok (.if_icmp .ne 12, 3) := by decide +kernel
theorem dX5_areAlike_31 : decode cX5_areAlike 31 = .ok (.iload_n 1, 1) := by decide +kernel
theorem dX5_areAlike_32 : decode cX5_areAlike 32 = .ok (.iconst 1, 1) := by decide +kernel
theorem dX5_areAlike_33 : decode cX5_areAlike 33 = .ok (.if_icmp .ne 7, 3) := by decide +kernel
theorem dX5_areAlike_36 : decode cX5_areAlike 36 = .ok (.iconst 1, 1) := by decide +kernel
theorem dX5_areAlike_37 : decode cX5_areAlike 37 = .ok (.goto 4, 3) := by decide +kernel
theorem dX5_areAlike_40 : decode cX5_areAlike 40 = .ok (.iconst 0, 1) := by decide +kernel
theorem dX5_areAlike_41 : decode cX5_areAlike 41 = .ok (.ireturn, 1) := by decide +kernel
theorem dX6_init_0 : decode cX6_init 0 = .ok (.aload_n 0, 1) := by decide +kernel
theorem dX6_init_1 : decode cX6_init 1 = .ok (.invokespecial 3, 3) := by decide +kernel
theorem dX6_init_4 : decode cX6_init 4 = .ok (.aload_n 0, 1) := by decide +kernel
theorem dX6_init_5 : decode cX6_init 5 = .ok (.bipush 6, 2) := by decide +kernel
theorem dX6_init_7 : decode cX6_init 7 = .ok (.newarray .int, 2) := by decide +kernel
theorem dX6_init_9 : decode cX6_init 9 = .ok (.putfield 9, 3) := by decide +kernel
theorem dX6_init_12 : decode cX6_init 12 = .ok (.aload_n 0, 1) := by decide +kernel
theorem dX6_init_13 : decode cX6_init 13 = .ok (.iconst 0, 1) := by decide +kernel
theorem dX6_init_14 : decode cX6_init 14 = .ok (.putfield 15, 3) := by decide +kernel
theorem dX6_init_17 : decode cX6_init 17 = .ok (.return_, 1) := by decide +kernel
theorem dX6_has_0 : decode cX6_has 0 = .ok (.aload_n 0, 1) := by decide +kernel
theorem dX6_has_1 : decode cX6_has 1 = .ok (.getfield 15, 3) := by decide +kernel
theorem dX6_has_4 : decode cX6_has 4 = .ok (.iload_n 1, 1) := by decide +kernel
theorem dX6_has_5 : decode cX6_has 5 = .ok (.invokestatic 19, 3) := by decide +kernel
theorem dX6_has_8 : decode cX6_has 8 = .ok (.ireturn, 1) := by decide +kernel
theorem dX6_at_0 : decode cX6_at 0 = .ok (.iload_n 1, 1) := by decide +kernel
theorem dX6_at_1 : decode cX6_at 1 = .ok (.ifCond .lt 21, 3) := by decide +kernel
theorem dX6_at_4 : decode cX6_at 4 = .ok (.iload_n 1, 1) := by decide +kernel
theorem dX6_at_5 : decode cX6_at 5 = .ok (.aload_n 0, 1) := by decide +kernel
theorem dX6_at_6 : decode cX6_at 6 = .ok (.getfield 9, 3) := by decide +kernel
theorem dX6_at_9 : decode cX6_at 9 = .ok (.arraylength, 1) := by decide +kernel
theorem dX6_at_10 : decode cX6_at 10 = .ok (.if_icmp .ge 12, 3) := by decide +kernel
theorem dX6_at_13 : decode cX6_at 13 = .ok (.aload_n 0, 1) := by decide +kernel
theorem dX6_at_14 : decode cX6_at 14 = .ok (.getfield 9, 3) := by decide +kernel
theorem dX6_at_17 : decode cX6_at 17 = .ok (.iload_n 1, 1) := by decide +kernel
theorem dX6_at_18 : decode cX6_at 18 = .ok (.iaload, 1) := by decide +kernel
theorem dX6_at_19 : decode cX6_at 19 = .ok (.goto 4, 3) := by decide +kernel
theorem dX6_at_22 : decode cX6_at 22 = .ok (.iconst 0, 1) := by decide +kernel
theorem dX6_at_23 : decode cX6_at 23 = .ok (.ireturn, 1) := by decide +kernel
theorem dX6_give_0 : decode cX6_give 0 = .ok (.iload_n 1, 1) := by decide +kernel
theorem dX6_give_1 : decode cX6_give 1 = .ok (.ifCond .lt 31, 3) := by decide +kernel
theorem dX6_give_4 : decode cX6_give 4 = .ok (.iload_n 1, 1) := by decide +kernel
theorem dX6_give_5 : decode cX6_give 5 = .ok (.aload_n 0, 1) := by decide +kernel
theorem dX6_give_6 : decode cX6_give 6 = .ok (.getfield 9, 3) := by decide +kernel
theorem dX6_give_9 : decode cX6_give 9 = .ok (.arraylength, 1) := by decide +kernel
theorem dX6_give_10 : decode cX6_give 10 = .ok (.if_icmp .ge 22, 3) := by decide +kernel
theorem dX6_give_13 : decode cX6_give 13 = .ok (.aload_n 0, 1) := by decide +kernel
theorem dX6_give_14 : decode cX6_give 14 = .ok (.getfield 9, 3) := by decide +kernel
theorem dX6_give_17 : decode cX6_give 17 = .ok (.iload_n 1, 1) := by decide +kernel
theorem dX6_give_18 : decode cX6_give 18 = .ok (.iload_n 2, 1) := by decide +kernel
theorem dX6_give_19 : decode cX6_give 19 = .ok (.iastore, 1) := by decide +kernel
theorem dX6_give_20 : decode cX6_give 20 = .ok (.aload_n 0, 1) := by decide +kernel
theorem dX6_give_21 : decode cX6_give 21 = .ok (.dup, 1) := by decide +kernel
theorem dX6_give_22 : decode cX6_give 22 = .ok (.getfield 15, 3) := by decide +kernel
theorem dX6_give_25 : decode cX6_give 25 = .ok (.iconst 1, 1) := by decide +kernel
theorem dX6_give_26 : decode cX6_give 26 = .ok (.iload_n 1, 1) := by decide +kernel
theorem dX6_give_27 : decode cX6_give 27 = .ok (.ishl, 1) := by decide +kernel
theorem dX6_give_28 : decode cX6_give 28 = .ok (.ior, 1) := by decide +kernel
theorem dX6_give_29 : decode cX6_give 29 = .ok (.putfield 15, 3) := by decide +kernel
theorem dX6_give_32 : decode cX6_give 32 = .ok (.return_, 1) := by decide +kernel
theorem dX6_ofNumber_0 : decode cX6_ofNumber 0 = .ok (.iload_n 1, 1) := by decide +kernel
theorem dX6_ofNumber_1 : decode cX6_ofNumber 1 = .ok (.ireturn, 1) := by decide +kernel
theorem dX6_ofField_0 : decode cX6_ofField 0 = .ok (.aload_n 0, 1) := by decide +kernel
theorem dX6_ofField_1 : decode cX6_ofField 1 = .ok (.iload_n 1, 1) := by decide +kernel
theorem dX6_ofField_2 : decode cX6_ofField 2 = .ok (.invokevirtual 23, 3) := by decide +kernel
theorem dX6_ofField_5 : decode cX6_ofField 5 = .ok (.ireturn, 1) := by decide +kernel
theorem dX6_ofNot_0 : decode cX6_ofNot 0 = .ok (.iload_n 1, 1) := by decide +kernel
theorem dX6_ofNot_1 : decode cX6_ofNot 1 = .ok (.ifCond .ne 7, 3) := by decide +kernel
theorem dX6_ofNot_4 : decode cX6_ofNot 4 = .ok (.iconst 1, 1) := by decide +kernel
theorem dX6_ofNot_5 : decode cX6_ofNot 5 = .ok (.goto 4, 3) := by decide +kernel
theorem dX6_ofNot_8 : decode cX6_ofNot 8 = .ok (.iconst 0, 1) := by decide +kernel
theorem dX6_ofNot_9 : decode cX6_ofNot 9 = .ok (.ireturn, 1) := by decide +kernel
theorem dX6_ofSign_0 : decode cX6_ofSign 0 = .ok (.iload_n 1, 1) := by decide +kernel
theorem dX6_ofSign_1 : decode cX6_ofSign 1 = .ok (.tableswitch 176 38 62 #[172, 176, 176, 176, 131, 115, 176, 123, 176, 176, 176, 176, 176, 176, 176, 176, 176, 176, 176, 176, 176, 176, 139, 161, 150], 115) := by decide +kernel
theorem dX6_ofSign_116 : decode cX6_ofSign 116 = .ok (.iload_n 2, 1) := by decide +kernel
theorem dX6_ofSign_117 : decode cX6_ofSign 117 = .ok (.iload_n 3, 1) := by decide +kernel
theorem dX6_ofSign_118 : decode cX6_ofSign 118 = .ok (.iadd, 1) := by decide +kernel
theorem dX6_ofSign_119 : decode cX6_ofSign 119 = .ok (.sipush 10000, 3) := by decide +kernel
theorem dX6_ofSign_122 : decode cX6_ofSign 122 = .ok (.irem, 1) := by decide +kernel
theorem dX6_ofSign_123 : decode cX6_ofSign 123 = .ok (.ireturn, 1) := by decide +kernel
theorem dX6_ofSign_124 : decode cX6_ofSign 124 = .ok (.iload_n 2, 1) := by decide +kernel
theorem dX6_ofSign_125 : decode cX6_ofSign 125 = .ok (.iload_n 3, 1) := by decide +kernel
theorem dX6_ofSign_126 : decode cX6_ofSign 126 = .ok (.isub, 1) := by decide +kernel
theorem dX6_ofSign_127 : decode cX6_ofSign 127 = .ok (.sipush 10000, 3) := by decide +kernel
theorem dX6_ofSign_130 : decode cX6_ofSign 130 = .ok (.irem, 1) := by decide +kernel
theorem dX6_ofSign_131 : decode cX6_ofSign 131 = .ok (.ireturn, 1) := by decide +kernel
theorem dX6_ofSign_132 : decode cX6_ofSign 132 = .ok (.iload_n 2, 1) := by decide +kernel
theorem dX6_ofSign_133 : decode cX6_ofSign 133 = .ok (.iload_n 3, 1) := by decide +kernel
theorem dX6_ofSign_134 : decode cX6_ofSign 134 = .ok (.imul, 1) := by decide +kernel
theorem dX6_ofSign_135 : decode cX6_ofSign 135 = .ok (.sipush 10000, 3) := by decide +kernel
theorem dX6_ofSign_138 : decode cX6_ofSign 138 = .ok (.irem, 1) := by decide +kernel
theorem dX6_ofSign_139 : decode cX6_ofSign 139 = .ok (.ireturn, 1) := by decide +kernel
theorem dX6_ofSign_140 : decode cX6_ofSign 140 = .ok (.iload_n 2, 1) := by decide +kernel
theorem dX6_ofSign_141 : decode cX6_ofSign 141 = .ok (.iload_n 3, 1) := by decide +kernel
theorem dX6_ofSign_142 : decode cX6_ofSign 142 = .ok (.if_icmp .ge 7, 3) := by decide +kernel
theorem dX6_ofSign_145 : decode cX6_ofSign 145 = .ok (.iconst 1, 1) := by decide +kernel
theorem dX6_ofSign_146 : decode cX6_ofSign 146 = .ok (.goto 4, 3) := by decide +kernel
theorem dX6_ofSign_149 : decode cX6_ofSign 149 = .ok (.iconst 0, 1) := by decide +kernel
theorem dX6_ofSign_150 : decode cX6_ofSign 150 = .ok (.ireturn, 1) := by decide +kernel
theorem dX6_ofSign_151 : decode cX6_ofSign 151 = .ok (.iload_n 2, 1) := by decide +kernel
theorem dX6_ofSign_152 : decode cX6_ofSign 152 = .ok (.iload_n 3, 1) := by decide +kernel
theorem dX6_ofSign_153 : decode cX6_ofSign 153 = .ok (.if_icmp .le 7, 3) := by decide +kernel
theorem dX6_ofSign_156 : decode cX6_ofSign 156 = .ok (.iconst 1, 1) := by decide +kernel
theorem dX6_ofSign_157 : decode cX6_ofSign 157 = .ok (.goto 4, 3) := by decide +kernel
theorem dX6_ofSign_160 : decode cX6_ofSign 160 = .ok (.iconst 0, 1) := by decide +kernel
theorem dX6_ofSign_161 : decode cX6_ofSign 161 = .ok (.ireturn, 1) := by decide +kernel
theorem dX6_ofSign_162 : decode cX6_ofSign 162 = .ok (.iload_n 2, 1) := by decide +kernel
theorem dX6_ofSign_163 : decode cX6_ofSign 163 = .ok (.iload_n 3, 1) := by decide +kernel
theorem dX6_ofSign_164 : decode cX6_ofSign 164 = .ok (.if_icmp .ne 7, 3) := by decide +kernel
theorem dX6_ofSign_167 : decode cX6_ofSign 167 = .ok (.iconst 1, 1) := by decide +kernel
theorem dX6_ofSign_168 : decode cX6_ofSign 168 = .ok (.goto 4, 3) := by decide +kernel
theorem dX6_ofSign_171 : decode cX6_ofSign 171 = .ok (.iconst 0, 1) := by decide +kernel
theorem dX6_ofSign_172 : decode cX6_ofSign 172 = .ok (.ireturn, 1) := by decide +kernel
theorem dX6_ofSign_173 : decode cX6_ofSign 173 = .ok (.iload_n 2, 1) := by decide +kernel
theorem dX6_ofSign_174 : decode cX6_ofSign 174 = .ok (.iload_n 3, 1) := by decide +kernel
theorem dX6_ofSign_175 : decode cX6_ofSign 175 = .ok (.iand, 1) := by decide +kernel
theorem dX6_ofSign_176 : decode cX6_ofSign 176 = .ok (.ireturn, 1) := by decide +kernel
theorem dX6_ofSign_177 : decode cX6_ofSign 177 = .ok (.iload_n 2, 1) := by decide +kernel
theorem dX6_ofSign_178 : decode cX6_ofSign 178 = .ok (.iload_n 3, 1) := by decide +kernel
theorem dX6_ofSign_179 : decode cX6_ofSign 179 = .ok (.ior, 1) := by decide +kernel
theorem dX6_ofSign_180 : decode cX6_ofSign 180 = .ok (.ireturn, 1) := by decide +kernel
theorem dX7_init_0 : decode cX7_init 0 = .ok (.aload_n 0, 1) := by decide +kernel
theorem dX7_init_1 : decode cX7_init 1 = .ok (.invokespecial 1, 3) := by decide +kernel
theorem dX7_init_4 : decode cX7_init 4 = .ok (.aload_n 0, 1) := by decide +kernel
theorem dX7_init_5 : decode cX7_init 5 = .ok (.new 7, 3) := by decide +kernel
theorem dX7_init_8 : decode cX7_init 8 = .ok (.dup, 1) := by decide +kernel
theorem dX7_init_9 : decode cX7_init 9 = .ok (.invokespecial 9, 3) := by decide +kernel
theorem dX7_init_12 : decode cX7_init 12 = .ok (.putfield 10, 3) := by decide +kernel
theorem dX7_init_15 : decode cX7_init 15 = .ok (.aload_n 0, 1) := by decide +kernel
theorem dX7_init_16 : decode cX7_init 16 = .ok (.new 16, 3) := by decide +kernel
theorem dX7_init_19 : decode cX7_init 19 = .ok (.dup, 1) := by decide +kernel
theorem dX7_init_20 : decode cX7_init 20 = .ok (.invokespecial 18, 3) := by decide +kernel
theorem dX7_init_23 : decode cX7_init 23 = .ok (.putfield 19, 3) := by decide +kernel
theorem dX7_init_26 : decode cX7_init 26 = .ok (.aload_n 0, 1) := by decide +kernel
theorem dX7_init_27 : decode cX7_init 27 = .ok (.bipush 10, 2) := by decide +kernel
theorem dX7_init_29 : decode cX7_init 29 = .ok (.anewarray 16, 3) := by decide +kernel
theorem dX7_init_32 : decode cX7_init 32 = .ok (.putfield 23, 3) := by decide +kernel
theorem dX7_init_35 : decode cX7_init 35 = .ok (.aload_n 0, 1) := by decide +kernel
theorem dX7_init_36 : decode cX7_init 36 = .ok (.iconst 0, 1) := by decide +kernel
theorem dX7_init_37 : decode cX7_init 37 = .ok (.putfield 27, 3) := by decide +kernel
theorem dX7_init_40 : decode cX7_init 40 = .ok (.aload_n 0, 1) := by decide +kernel
theorem dX7_init_41 : decode cX7_init 41 = .ok (.bipush 20, 2) := by decide +kernel
theorem dX7_init_43 : decode cX7_init 43 = .ok (.anewarray 31, 3) := by decide +kernel
theorem dX7_init_46 : decode cX7_init 46 = .ok (.putfield 33, 3) := by decide +kernel
theorem dX7_init_49 : decode cX7_init 49 = .ok (.aload_n 0, 1) := by decide +kernel
theorem dX7_init_50 : decode cX7_init 50 = .ok (.iconst 0, 1) := by decide +kernel
theorem dX7_init_51 : decode cX7_init 51 = .ok (.putfield 37, 3) := by decide +kernel
theorem dX7_init_54 : decode cX7_init 54 = .ok (.return_, 1) := by decide +kernel
theorem dX7_type_0 : decode cX7_type 0 = .ok (.aload_n 0, 1) := by decide +kernel
theorem dX7_type_1 : decode cX7_type 1 = .ok (.getfield 10, 3) := by decide +kernel
theorem dX7_type_4 : decode cX7_type 4 = .ok (.invokevirtual 40, 3) := by decide +kernel
theorem dX7_type_7 : decode cX7_type 7 = .ok (.bipush 40, 2) := by decide +kernel
theorem dX7_type_9 : decode cX7_type 9 = .ok (.if_icmp .lt 13, 3) := by decide +kernel
theorem dX7_type_12 : decode cX7_type 12 = .ok (.new 44, 3) := by decide +kernel
theorem dX7_type_15 : decode cX7_type 15 = .ok (.dup, 1) := by decide +kernel
theorem dX7_type_16 : decode cX7_type 16 = .ok (.ldc 46, 2) := by decide +kernel
theorem dX7_type_18 : decode cX7_type 18 = .ok (.invokespecial 48, 3) := by decide +kernel
theorem dX7_type_21 : decode cX7_type 21 = .ok (.athrow, 1) := by decide +kernel
theorem dX7_type_22 : decode cX7_type 22 = .ok (.aload_n 0, 1) := by decide +kernel
theorem dX7_type_23 : decode cX7_type 23 = .ok (.getfield 10, 3) := by decide +kernel
theorem dX7_type_26 : decode cX7_type 26 = .ok (.iload_n 1, 1) := by decide +kernel
theorem dX7_type_27 : decode cX7_type 27 = .ok (.invokevirtual 51, 3) := by decide +kernel
theorem dX7_type_30 : decode cX7_type 30 = .ok (.aload_n 0, 1) := by decide +kernel
theorem dX7_type_31 : decode cX7_type 31 = .ok (.getfield 10, 3) := by decide +kernel
theorem dX7_type_34 : decode cX7_type 34 = .ok (.invokevirtual 40, 3) := by decide +kernel
theorem dX7_type_37 : decode cX7_type 37 = .ok (.ireturn, 1) := by decide +kernel
theorem dX7_clear_0 : decode cX7_clear 0 = .ok (.aload_n 0, 1) := by decide +kernel
theorem dX7_clear_1 : decode cX7_clear 1 = .ok (.getfield 10, 3) := by decide +kernel
theorem dX7_clear_4 : decode cX7_clear 4 = .ok (.invokevirtual 40, 3) := by decide +kernel
theorem dX7_clear_7 : decode cX7_clear 7 = .ok (.istore_n 1, 1) := by decide +kernel
theorem dX7_clear_8 : decode cX7_clear 8 = .ok (.aload_n 0, 1) := by decide +kernel
theorem dX7_clear_9 : decode cX7_clear 9 = .ok (.getfield 10, 3) := by decide +kernel
theorem dX7_clear_12 : decode cX7_clear 12 = .ok (.invokevirtual 55, 3) := by decide +kernel
theorem dX7_clear_15 : decode cX7_clear 15 = .ok (.iload_n 1, 1) := by decide +kernel
theorem dX7_clear_16 : decode cX7_clear 16 = .ok (.ireturn, 1) := by decide +kernel
theorem dX7_error_0 : decode cX7_error 0 = .ok (.aload_n 0, 1) := by decide +kernel
theorem dX7_error_1 : decode cX7_error 1 = .ok (.getfield 10, 3) := by decide +kernel
theorem dX7_error_4 : decode cX7_error 4 = .ok (.invokevirtual 58, 3) := by decide +kernel
theorem dX7_error_7 : decode cX7_error 7 = .ok (.ireturn, 1) := by decide +kernel
theorem dX7_typeOfText_0 : decode cX7_typeOfText 0 = .ok (.aload_n 0, 1) := by decide +kernel
theorem dX7_typeOfText_1 : decode cX7_typeOfText 1 = .ok (.getfield 10, 3) := by decide +kernel
theorem dX7_typeOfText_4 : decode cX7_typeOfText 4 = .ok (.invokevirtual 58, 3) := by decide +kernel
theorem dX7_typeOfText_7 : decode cX7_typeOfText 7 = .ok (.iconst (-1), 1) := by decide +kernel
theorem dX7_typeOfText_8 : decode cX7_typeOfText 8 = .ok (.if_icmp .eq 13, 3) := by decide +kernel
theorem dX7_typeOfText_11 : decode cX7_typeOfText 11 = .ok (.new 44, 3) := by decide +kernel
theorem dX7_typeOfText_14 : decode cX7_typeOfText 14 = .ok (.dup, 1) := by decide +kernel
theorem dX7_typeOfText_15 : decode cX7_typeOfText 15 = .ok (.ldc 61, 2) := by decide +kernel
theorem dX7_typeOfText_17 : decode cX7_typeOfText 17 = .ok (.invokespecial 48, 3) := by decide +kernel
theorem dX7_typeOfText_20 : decode cX7_typeOfText 20 = .ok (.athrow, 1) := by decide +kernel
theorem dX7_typeOfText_21 : decode cX7_typeOfText 21 = .ok (.aload_n 0, 1) := by decide +kernel
theorem dX7_typeOfText_22 : decode cX7_typeOfText 22 = .ok (.getfield 19, 3) := by decide +kernel
theorem dX7_typeOfText_25 : decode cX7_typeOfText 25 = .ok (.aload_n 0, 1) := by decide +kernel
theorem dX7_typeOfText_26 : decode cX7_typeOfText 26 = .ok (.getfield 10, 3) := by decide +kernel
theorem dX7_typeOfText_29 : decode cX7_typeOfText 29 = .ok (.invokevirtual 63, 3) := by decide +kernel
theorem dX7_typeOfText_32 : decode cX7_typeOfText 32 = .ok (.invokevirtual 67, 3) := by decide +kernel
theorem dX7_typeOfText_35 : decode cX7_typeOfText 35 = .ok (.ireturn, 1) := by decide +kernel
theorem dX7_setType_0 : decode cX7_setType 0 = .ok (.iload_n 1, 1) := by decide +kernel
theorem dX7_setType_1 : decode cX7_setType 1 = .ok (.invokestatic 71, 3) := by decide +kernel
theorem dX7_setType_4 : decode cX7_setType 4 = .ok (.iload_n 2, 1) := by decide +kernel
theorem dX7_setType_5 : decode cX7_setType 5 = .ok (.ifCond .lt 8, 3) := by decide +kernel
theorem dX7_setType_8 : decode cX7_setType 8 = .ok (.iload_n 2, 1) := by decide +kernel
theorem dX7_setType_9 : decode cX7_setType 9 = .ok (.iconst 3, 1) := by decide +kernel
theorem dX7_setType_10 : decode cX7_setType 10 = .ok (.if_icmp .le 13, 3) := by decide +kernel
theorem dX7_setType_13 : decode cX7_setType 13 = .ok (.new 75, 3) := by decide +kernel
theorem dX7_setType_16 : decode cX7_setType 16 = .ok (.dup, 1) := by decide +kernel
theorem dX7_setType_17 : decode cX7_setType 17 = .ok (.ldc 77, 2) := by decide +kernel
theorem dX7_setType_19 : decode cX7_setType 19 = .ok (.invokespecial 79, 3) := by decide +kernel
theorem dX7_setType_22 : decode cX7_setType 22 = .ok (.athrow, 1) := by decide +kernel
theorem dX7_setType_23 : decode cX7_setType 23 = .ok (.aload_n 0, 1) := by decide +kernel
theorem dX7_setType_24 : decode cX7_setType 24 = .ok (.getfield 19, 3) := by decide +kernel
theorem dX7_setType_27 : decode cX7_setType 27 = .ok (.iload_n 1, 1) := by decide +kernel
theorem dX7_setType_28 : decode cX7_setType 28 = .ok (.iload_n 2, 1) := by decide +kernel
theorem dX7_setType_29 : decode cX7_setType 29 = .ok (.invokevirtual 80, 3) := by decide +kernel
theorem dX7_setType_32 : decode cX7_setType 32 = .ok (.aload_n 0, 1) := by decide +kernel
theorem dX7_setType_33 : decode cX7_setType 33 = .ok (.getfield 19, 3) := by decide +kernel
theorem dX7_setType_36 : decode cX7_setType 36 = .ok (.invokevirtual 84, 3) := by decide +kernel
theorem dX7_setType_39 : decode cX7_setType 39 = .ok (.ireturn, 1) := by decide +kernel
theorem dX7_setFormula_0 : decode cX7_setFormula 0 = .ok (.iload_n 1, 1) := by decide +kernel
theorem dX7_setFormula_1 : decode cX7_setFormula 1 = .ok (.invokestatic 87, 3) := by decide +kernel
theorem dX7_setFormula_4 : decode cX7_setFormula 4 = .ok (.aload_n 0, 1) := by decide +kernel
end
section
theorem dX7_setFormula_5 : decode cX7_setFormula 5 = .ok (.getfield 10, 3) := by decide +kernel
theorem dX7_setFormula_8 : decode cX7_setFormula 8 = .ok (.invokevirtual 58, 3) := by decide +kernel
theorem dX7_setFormula_11 : decode cX7_setFormula 11 = .ok (.iconst (-1), 1) := by decide +kernel
theorem dX7_setFormula_12 : decode cX7_setFormula 12 = .ok (.if_icmp .eq 13, 3) := by decide +kernel
theorem dX7_setFormula_15 : decode cX7_setFormula 15 = .ok (.new 75, 3) := by decide +kernel
theorem dX7_setFormula_18 : decode cX7_setFormula 18 = .ok (.dup, 1) := by decide +kernel
theorem dX7_setFormula_19 : decode cX7_setFormula 19 = .ok (.ldc 61, 2) := by decide +kernel
theorem dX7_setFormula_21 : decode cX7_setFormula 21 = .ok (.invokespecial 79, 3) := by decide +kernel
theorem dX7_setFormula_24 : decode cX7_setFormula 24 = .ok (.athrow, 1) := by decide +kernel
theorem dX7_setFormula_25 : decode cX7_setFormula 25 = .ok (.aload_n 0, 1) := by decide +kernel
theorem dX7_setFormula_26 : decode cX7_setFormula 26 = .ok (.getfield 10, 3) := by decide +kernel
theorem dX7_setFormula_29 : decode cX7_setFormula 29 = .ok (.invokevirtual 63, 3) := by decide +kernel
theorem dX7_setFormula_32 : decode cX7_setFormula 32 = .ok (.astore_n 2, 1) := by decide +kernel
theorem dX7_setFormula_33 : decode cX7_setFormula 33 = .ok (.aload_n 0, 1) := by decide +kernel
theorem dX7_setFormula_34 : decode cX7_setFormula 34 = .ok (.getfield 19, 3) := by decide +kernel
theorem dX7_setFormula_37 : decode cX7_setFormula 37 = .ok (.iload_n 1, 1) := by decide +kernel
theorem dX7_setFormula_38 : decode cX7_setFormula 38 = .ok (.aload_n 2, 1) := by decide +kernel
theorem dX7_setFormula_39 : decode cX7_setFormula 39 = .ok (.invokevirtual 90, 3) := by decide +kernel
theorem dX7_setFormula_42 : decode cX7_setFormula 42 = .ok (.ifCond .eq 13, 3) := by decide +kernel
theorem dX7_setFormula_45 : decode cX7_setFormula 45 = .ok (.new 44, 3) := by decide +kernel
theorem dX7_setFormula_48 : decode cX7_setFormula 48 = .ok (.dup, 1) := by decide +kernel
theorem dX7_setFormula_49 : decode cX7_setFormula 49 = .ok (.ldc 94, 2) := by decide +kernel
theorem dX7_setFormula_51 : decode cX7_setFormula 51 = .ok (.invokespecial 48, 3) := by decide +kernel
theorem dX7_setFormula_54 : decode cX7_setFormula 54 = .ok (.athrow, 1) := by decide +kernel
theorem dX7_setFormula_55 : decode cX7_setFormula 55 = .ok (.aload_n 0, 1) := by decide +kernel
theorem dX7_setFormula_56 : decode cX7_setFormula 56 = .ok (.getfield 19, 3) := by decide +kernel
theorem dX7_setFormula_59 : decode cX7_setFormula 59 = .ok (.iload_n 1, 1) := by decide +kernel
theorem dX7_setFormula_60 : decode cX7_setFormula 60 = .ok (.aload_n 2, 1) := by decide +kernel
theorem dX7_setFormula_61 : decode cX7_setFormula 61 = .ok (.invokevirtual 96, 3) := by decide +kernel
theorem dX7_setFormula_64 : decode cX7_setFormula 64 = .ok (.ifCond .eq 13, 3) := by decide +kernel
theorem dX7_setFormula_67 : decode cX7_setFormula 67 = .ok (.new 44, 3) := by decide +kernel
theorem dX7_setFormula_70 : decode cX7_setFormula 70 = .ok (.dup, 1) := by decide +kernel
theorem dX7_setFormula_71 : decode cX7_setFormula 71 = .ok (.ldc 99, 2) := by decide +kernel
theorem dX7_setFormula_73 : decode cX7_setFormula 73 = .ok (.invokespecial 48, 3) := by decide +kernel
theorem dX7_setFormula_76 : decode cX7_setFormula 76 = .ok (.athrow, 1) := by decide +kernel
theorem dX7_setFormula_77 : decode cX7_setFormula 77 = .ok (.aload_n 0, 1) := by decide +kernel
theorem dX7_setFormula_78 : decode cX7_setFormula 78 = .ok (.getfield 19, 3) := by decide +kernel
theorem dX7_setFormula_81 : decode cX7_setFormula 81 = .ok (.iload_n 1, 1) := by decide +kernel
theorem dX7_setFormula_82 : decode cX7_setFormula 82 = .ok (.aload_n 2, 1) := by decide +kernel
theorem dX7_setFormula_83 : decode cX7_setFormula 83 = .ok (.invokevirtual 101, 3) := by decide +kernel
theorem dX7_setFormula_86 : decode cX7_setFormula 86 = .ok (.aload_n 0, 1) := by decide +kernel
theorem dX7_setFormula_87 : decode cX7_setFormula 87 = .ok (.getfield 19, 3) := by decide +kernel
theorem dX7_setFormula_90 : decode cX7_setFormula 90 = .ok (.invokevirtual 105, 3) := by decide +kernel
theorem dX7_setFormula_93 : decode cX7_setFormula 93 = .ok (.ireturn, 1) := by decide +kernel
theorem dX7_dropFormula_0 : decode cX7_dropFormula 0 = .ok (.iload_n 1, 1) := by decide +kernel
theorem dX7_dropFormula_1 : decode cX7_dropFormula 1 = .ok (.invokestatic 87, 3) := by decide +kernel
theorem dX7_dropFormula_4 : decode cX7_dropFormula 4 = .ok (.aload_n 0, 1) := by decide +kernel
theorem dX7_dropFormula_5 : decode cX7_dropFormula 5 = .ok (.getfield 19, 3) := by decide +kernel
theorem dX7_dropFormula_8 : decode cX7_dropFormula 8 = .ok (.iload_n 1, 1) := by decide +kernel
theorem dX7_dropFormula_9 : decode cX7_dropFormula 9 = .ok (.invokevirtual 108, 3) := by decide +kernel
theorem dX7_dropFormula_12 : decode cX7_dropFormula 12 = .ok (.ifnull 7, 3) := by decide +kernel
theorem dX7_dropFormula_15 : decode cX7_dropFormula 15 = .ok (.iconst 1, 1) := by decide +kernel
theorem dX7_dropFormula_16 : decode cX7_dropFormula 16 = .ok (.goto 4, 3) := by decide +kernel
theorem dX7_dropFormula_19 : decode cX7_dropFormula 19 = .ok (.iconst 0, 1) := by decide +kernel
theorem dX7_dropFormula_20 : decode cX7_dropFormula 20 = .ok (.istore_n 2, 1) := by decide +kernel
theorem dX7_dropFormula_21 : decode cX7_dropFormula 21 = .ok (.aload_n 0, 1) := by decide +kernel
theorem dX7_dropFormula_22 : decode cX7_dropFormula 22 = .ok (.getfield 19, 3) := by decide +kernel
theorem dX7_dropFormula_25 : decode cX7_dropFormula 25 = .ok (.iload_n 1, 1) := by decide +kernel
theorem dX7_dropFormula_26 : decode cX7_dropFormula 26 = .ok (.aconst_null, 1) := by decide +kernel
theorem dX7_dropFormula_27 : decode cX7_dropFormula 27 = .ok (.invokevirtual 101, 3) := by decide +kernel
theorem dX7_dropFormula_30 : decode cX7_dropFormula 30 = .ok (.iload_n 2, 1) := by decide +kernel
theorem dX7_dropFormula_31 : decode cX7_dropFormula 31 = .ok (.ireturn, 1) := by decide +kernel
theorem dX7_isBroken_0 : decode cX7_isBroken 0 = .ok (.iload_n 1, 1) := by decide +kernel
theorem dX7_isBroken_1 : decode cX7_isBroken 1 = .ok (.invokestatic 87, 3) := by decide +kernel
theorem dX7_isBroken_4 : decode cX7_isBroken 4 = .ok (.aload_n 0, 1) := by decide +kernel
theorem dX7_isBroken_5 : decode cX7_isBroken 5 = .ok (.getfield 19, 3) := by decide +kernel
theorem dX7_isBroken_8 : decode cX7_isBroken 8 = .ok (.iload_n 1, 1) := by decide +kernel
theorem dX7_isBroken_9 : decode cX7_isBroken 9 = .ok (.invokevirtual 112, 3) := by decide +kernel
theorem dX7_isBroken_12 : decode cX7_isBroken 12 = .ok (.ireturn, 1) := by decide +kernel
theorem dX7_publish_0 : decode cX7_publish 0 = .ok (.aload_n 0, 1) := by decide +kernel
theorem dX7_publish_1 : decode cX7_publish 1 = .ok (.getfield 27, 3) := by decide +kernel
theorem dX7_publish_4 : decode cX7_publish 4 = .ok (.bipush 10, 2) := by decide +kernel
theorem dX7_publish_6 : decode cX7_publish 6 = .ok (.if_icmp .lt 13, 3) := by decide +kernel
theorem dX7_publish_9 : decode cX7_publish 9 = .ok (.new 44, 3) := by decide +kernel
theorem dX7_publish_12 : decode cX7_publish 12 = .ok (.dup, 1) := by decide +kernel
theorem dX7_publish_13 : decode cX7_publish 13 = .ok (.ldc 116, 2) := by decide +kernel
theorem dX7_publish_15 : decode cX7_publish 15 = .ok (.invokespecial 48, 3) := by decide +kernel
theorem dX7_publish_18 : decode cX7_publish 18 = .ok (.athrow, 1) := by decide +kernel
theorem dX7_publish_19 : decode cX7_publish 19 = .ok (.aload_n 0, 1) := by decide +kernel
theorem dX7_publish_20 : decode cX7_publish 20 = .ok (.getfield 19, 3) := by decide +kernel
theorem dX7_publish_23 : decode cX7_publish 23 = .ok (.invokevirtual 118, 3) := by decide +kernel
theorem dX7_publish_26 : decode cX7_publish 26 = .ok (.astore_n 1, 1) := by decide +kernel
theorem dX7_publish_27 : decode cX7_publish 27 = .ok (.aload_n 0, 1) := by decide +kernel
theorem dX7_publish_28 : decode cX7_publish 28 = .ok (.getfield 19, 3) := by decide +kernel
theorem dX7_publish_31 : decode cX7_publish 31 = .ok (.invokevirtual 122, 3) := by decide +kernel
theorem dX7_publish_34 : decode cX7_publish 34 = .ok (.astore_n 2, 1) := by decide +kernel
theorem dX7_publish_35 : decode cX7_publish 35 = .ok (.aload_n 0, 1) := by decide +kernel
theorem dX7_publish_36 : decode cX7_publish 36 = .ok (.getfield 23, 3) := by decide +kernel
theorem dX7_publish_39 : decode cX7_publish 39 = .ok (.aload_n 0, 1) := by decide +kernel
theorem dX7_publish_40 : decode cX7_publish 40 = .ok (.getfield 27, 3) := by decide +kernel
theorem dX7_publish_43 : decode cX7_publish 43 = .ok (.aload_n 2, 1) := by decide +kernel
theorem dX7_publish_44 : decode cX7_publish 44 = .ok (.aastore, 1) := by decide +kernel
theorem dX7_publish_45 : decode cX7_publish 45 = .ok (.aload_n 0, 1) := by decide +kernel
theorem dX7_publish_46 : decode cX7_publish 46 = .ok (.dup, 1) := by decide +kernel
theorem dX7_publish_47 : decode cX7_publish 47 = .ok (.getfield 27, 3) := by decide +kernel
theorem dX7_publish_50 : decode cX7_publish 50 = .ok (.iconst 1, 1) := by decide +kernel
theorem dX7_publish_51 : decode cX7_publish 51 = .ok (.iadd, 1) := by decide +kernel
theorem dX7_publish_52 : decode cX7_publish 52 = .ok (.putfield 27, 3) := by decide +kernel
theorem dX7_publish_55 : decode cX7_publish 55 = .ok (.iconst 0, 1) := by decide +kernel
theorem dX7_publish_56 : decode cX7_publish 56 = .ok (.istore_n 3, 1) := by decide +kernel
theorem dX7_publish_57 : decode cX7_publish 57 = .ok (.iload_n 3, 1) := by decide +kernel
theorem dX7_publish_58 : decode cX7_publish 58 = .ok (.aload_n 0, 1) := by decide +kernel
theorem dX7_publish_59 : decode cX7_publish 59 = .ok (.getfield 37, 3) := by decide +kernel
theorem dX7_publish_62 : decode cX7_publish 62 = .ok (.if_icmp .ge 35, 3) := by decide +kernel
theorem dX7_publish_65 : decode cX7_publish 65 = .ok (.iload_n 3, 1) := by decide +kernel
theorem dX7_publish_66 : decode cX7_publish 66 = .ok (.bipush 20, 2) := by decide +kernel
theorem dX7_publish_68 : decode cX7_publish 68 = .ok (.if_icmp .ge 29, 3) := by decide +kernel
theorem dX7_publish_71 : decode cX7_publish 71 = .ok (.aload_n 0, 1) := by decide +kernel
theorem dX7_publish_72 : decode cX7_publish 72 = .ok (.getfield 33, 3) := by decide +kernel
theorem dX7_publish_75 : decode cX7_publish 75 = .ok (.iload_n 3, 1) := by decide +kernel
theorem dX7_publish_76 : decode cX7_publish 76 = .ok (.aaload, 1) := by decide +kernel
theorem dX7_publish_77 : decode cX7_publish 77 = .ok (.astore 4, 2) := by decide +kernel
theorem dX7_publish_79 : decode cX7_publish 79 = .ok (.aload 4, 2) := by decide +kernel
theorem dX7_publish_81 : decode cX7_publish 81 = .ok (.ifnull 10, 3) := by decide +kernel
theorem dX7_publish_84 : decode cX7_publish 84 = .ok (.aload 4, 2) := by decide +kernel
theorem dX7_publish_86 : decode cX7_publish 86 = .ok (.aload_n 2, 1) := by decide +kernel
theorem dX7_publish_87 : decode cX7_publish 87 = .ok (.aload_n 1, 1) := by decide +kernel
theorem dX7_publish_88 : decode cX7_publish 88 = .ok (.invokevirtual 126, 3) := by decide +kernel
theorem dX7_publish_91 : decode cX7_publish 91 = .ok (.iinc 3 1, 3) := by decide +kernel
theorem dX7_publish_94 : decode cX7_publish 94 = .ok (.goto (-37), 3) := by decide +kernel
theorem dX7_publish_97 : decode cX7_publish 97 = .ok (.aload_n 0, 1) := by decide +kernel
theorem dX7_publish_98 : decode cX7_publish 98 = .ok (.getfield 27, 3) := by decide +kernel
theorem dX7_publish_101 : decode cX7_publish 101 = .ok (.iconst 1, 1) := by decide +kernel
theorem dX7_publish_102 : decode cX7_publish 102 = .ok (.isub, 1) := by decide +kernel
theorem dX7_publish_103 : decode cX7_publish 103 = .ok (.ireturn, 1) := by decide +kernel
theorem dX7_versions_0 : decode cX7_versions 0 = .ok (.aload_n 0, 1) := by decide +kernel
theorem dX7_versions_1 : decode cX7_versions 1 = .ok (.getfield 27, 3) := by decide +kernel
theorem dX7_versions_4 : decode cX7_versions 4 = .ok (.ireturn, 1) := by decide +kernel
theorem dX7_typeIn_0 : decode cX7_typeIn 0 = .ok (.aload_n 0, 1) := by decide +kernel
theorem dX7_typeIn_1 : decode cX7_typeIn 1 = .ok (.iload_n 1, 1) := by decide +kernel
theorem dX7_typeIn_2 : decode cX7_typeIn 2 = .ok (.invokevirtual 130, 3) := by decide +kernel
theorem dX7_typeIn_5 : decode cX7_typeIn 5 = .ok (.astore_n 3, 1) := by decide +kernel
theorem dX7_typeIn_6 : decode cX7_typeIn 6 = .ok (.iload_n 2, 1) := by decide +kernel
theorem dX7_typeIn_7 : decode cX7_typeIn 7 = .ok (.invokestatic 71, 3) := by decide +kernel
theorem dX7_typeIn_10 : decode cX7_typeIn 10 = .ok (.aload_n 3, 1) := by decide +kernel
theorem dX7_typeIn_11 : decode cX7_typeIn 11 = .ok (.iload_n 2, 1) := by decide +kernel
theorem dX7_typeIn_12 : decode cX7_typeIn 12 = .ok (.invokevirtual 134, 3) := by decide +kernel
theorem dX7_typeIn_15 : decode cX7_typeIn 15 = .ok (.ireturn, 1) := by decide +kernel
theorem dX7_order_0 : decode cX7_order 0 = .ok (.aload_n 0, 1) := by decide +kernel
theorem dX7_order_1 : decode cX7_order 1 = .ok (.iload_n 1, 1) := by decide +kernel
theorem dX7_order_2 : decode cX7_order 2 = .ok (.invokevirtual 130, 3) := by decide +kernel
theorem dX7_order_5 : decode cX7_order 5 = .ok (.astore_n 3, 1) := by decide +kernel
theorem dX7_order_6 : decode cX7_order 6 = .ok (.iload_n 2, 1) := by decide +kernel
theorem dX7_order_7 : decode cX7_order 7 = .ok (.invokestatic 138, 3) := by decide +kernel
theorem dX7_order_10 : decode cX7_order 10 = .ok (.aload_n 3, 1) := by decide +kernel
theorem dX7_order_11 : decode cX7_order 11 = .ok (.iload_n 2, 1) := by decide +kernel
theorem dX7_order_12 : decode cX7_order 12 = .ok (.invokevirtual 141, 3) := by decide +kernel
theorem dX7_order_15 : decode cX7_order 15 = .ok (.ireturn, 1) := by decide +kernel
theorem dX7_plain_0 : decode cX7_plain 0 = .ok (.aload_n 0, 1) := by decide +kernel
theorem dX7_plain_1 : decode cX7_plain 1 = .ok (.iload_n 1, 1) := by decide +kernel
theorem dX7_plain_2 : decode cX7_plain 2 = .ok (.invokevirtual 130, 3) := by decide +kernel
theorem dX7_plain_5 : decode cX7_plain 5 = .ok (.astore 4, 2) := by decide +kernel
theorem dX7_plain_7 : decode cX7_plain 7 = .ok (.iload_n 2, 1) := by decide +kernel
theorem dX7_plain_8 : decode cX7_plain 8 = .ok (.invokestatic 87, 3) := by decide +kernel
theorem dX7_plain_11 : decode cX7_plain 11 = .ok (.iload_n 3, 1) := by decide +kernel
theorem dX7_plain_12 : decode cX7_plain 12 = .ok (.invokestatic 138, 3) := by decide +kernel
theorem dX7_plain_15 : decode cX7_plain 15 = .ok (.aload 4, 2) := by decide +kernel
theorem dX7_plain_17 : decode cX7_plain 17 = .ok (.iload_n 2, 1) := by decide +kernel
theorem dX7_plain_18 : decode cX7_plain 18 = .ok (.invokevirtual 108, 3) := by decide +kernel
theorem dX7_plain_21 : decode cX7_plain 21 = .ok (.astore 5, 2) := by decide +kernel
theorem dX7_plain_23 : decode cX7_plain 23 = .ok (.aload 5, 2) := by decide +kernel
theorem dX7_plain_25 : decode cX7_plain 25 = .ok (.ifnonnull 7, 3) := by decide +kernel
theorem dX7_plain_28 : decode cX7_plain 28 = .ok (.iconst (-1), 1) := by decide +kernel
theorem dX7_plain_29 : decode cX7_plain 29 = .ok (.goto 9, 3) := by decide +kernel
theorem dX7_plain_32 : decode cX7_plain 32 = .ok (.aload 5, 2) := by decide +kernel
theorem dX7_plain_34 : decode cX7_plain 34 = .ok (.iload_n 3, 1) := by decide +kernel
theorem dX7_plain_35 : decode cX7_plain 35 = .ok (.invokevirtual 144, 3) := by decide +kernel
theorem dX7_plain_38 : decode cX7_plain 38 = .ok (.ireturn, 1) := by decide +kernel
theorem dX7_begin_0 : decode cX7_begin 0 = .ok (.aload_n 0, 1) := by decide +kernel
theorem dX7_begin_1 : decode cX7_begin 1 = .ok (.getfield 27, 3) := by decide +kernel
theorem dX7_begin_4 : decode cX7_begin 4 = .ok (.ifCond .eq 12, 3) := by decide +kernel
theorem dX7_begin_7 : decode cX7_begin 7 = .ok (.aload_n 0, 1) := by decide +kernel
theorem dX7_begin_8 : decode cX7_begin 8 = .ok (.getfield 37, 3) := by decide +kernel
theorem dX7_begin_11 : decode cX7_begin 11 = .ok (.bipush 20, 2) := by decide +kernel
theorem dX7_begin_13 : decode cX7_begin 13 = .ok (.if_icmp .lt 13, 3) := by decide +kernel
theorem dX7_begin_16 : decode cX7_begin 16 = .ok (.new 44, 3) := by decide +kernel
theorem dX7_begin_19 : decode cX7_begin 19 = .ok (.dup, 1) := by decide +kernel
theorem dX7_begin_20 : decode cX7_begin 20 = .ok (.ldc 149, 2) := by decide +kernel
theorem dX7_begin_22 : decode cX7_begin 22 = .ok (.invokespecial 48, 3) := by decide +kernel
theorem dX7_begin_25 : decode cX7_begin 25 = .ok (.athrow, 1) := by decide +kernel
theorem dX7_begin_26 : decode cX7_begin 26 = .ok (.aload_n 0, 1) := by decide +kernel
theorem dX7_begin_27 : decode cX7_begin 27 = .ok (.getfield 27, 3) := by decide +kernel
theorem dX7_begin_30 : decode cX7_begin 30 = .ok (.iconst 1, 1) := by decide +kernel
theorem dX7_begin_31 : decode cX7_begin 31 = .ok (.isub, 1) := by decide +kernel
theorem dX7_begin_32 : decode cX7_begin 32 = .ok (.istore_n 1, 1) := by decide +kernel
theorem dX7_begin_33 : decode cX7_begin 33 = .ok (.aload_n 0, 1) := by decide +kernel
theorem dX7_begin_34 : decode cX7_begin 34 = .ok (.getfield 33, 3) := by decide +kernel
theorem dX7_begin_37 : decode cX7_begin 37 = .ok (.aload_n 0, 1) := by decide +kernel
theorem dX7_begin_38 : decode cX7_begin 38 = .ok (.getfield 37, 3) := by decide +kernel
theorem dX7_begin_41 : decode cX7_begin 41 = .ok (.new 31, 3) := by decide +kernel
theorem dX7_begin_44 : decode cX7_begin 44 = .ok (.dup, 1) := by decide +kernel
theorem dX7_begin_45 : decode cX7_begin 45 = .ok (.iload_n 1, 1) := by decide +kernel
theorem dX7_begin_46 : decode cX7_begin 46 = .ok (.aload_n 0, 1) := by decide +kernel
theorem dX7_begin_47 : decode cX7_begin 47 = .ok (.iload_n 1, 1) := by decide +kernel
theorem dX7_begin_48 : decode cX7_begin 48 = .ok (.invokevirtual 130, 3) := by decide +kernel
theorem dX7_begin_51 : decode cX7_begin 51 = .ok (.invokespecial 151, 3) := by decide +kernel
theorem dX7_begin_54 : decode cX7_begin 54 = .ok (.aastore, 1) := by decide +kernel
theorem dX7_begin_55 : decode cX7_begin 55 = .ok (.aload_n 0, 1) := by decide +kernel
theorem dX7_begin_56 : decode cX7_begin 56 = .ok (.dup, 1) := by decide +kernel
theorem dX7_begin_57 : decode cX7_begin 57 = .ok (.getfield 37, 3) := by decide +kernel
theorem dX7_begin_60 : decode cX7_begin 60 = .ok (.iconst 1, 1) := by decide +kernel
theorem dX7_begin_61 : decode cX7_begin 61 = .ok (.iadd, 1) := by decide +kernel
theorem dX7_begin_62 : decode cX7_begin 62 = .ok (.putfield 37, 3) := by decide +kernel
theorem dX7_begin_65 : decode cX7_begin 65 = .ok (.aload_n 0, 1) := by decide +kernel
theorem dX7_begin_66 : decode cX7_begin 66 = .ok (.getfield 37, 3) := by decide +kernel
theorem dX7_begin_69 : decode cX7_begin 69 = .ok (.iconst 1, 1) := by decide +kernel
theorem dX7_begin_70 : decode cX7_begin 70 = .ok (.isub, 1) := by decide +kernel
theorem dX7_begin_71 : decode cX7_begin 71 = .ok (.ireturn, 1) := by decide +kernel
theorem dX7_put_0 : decode cX7_put 0 = .ok (.aload_n 0, 1) := by decide +kernel
theorem dX7_put_1 : decode cX7_put 1 = .ok (.iload_n 1, 1) := by decide +kernel
theorem dX7_put_2 : decode cX7_put 2 = .ok (.invokevirtual 154, 3) := by decide +kernel
theorem dX7_put_5 : decode cX7_put 5 = .ok (.astore 4, 2) := by decide +kernel
theorem dX7_put_7 : decode cX7_put 7 = .ok (.iload_n 2, 1) := by decide +kernel
theorem dX7_put_8 : decode cX7_put 8 = .ok (.invokestatic 71, 3) := by decide +kernel
theorem dX7_put_11 : decode cX7_put 11 = .ok (.aload 4, 2) := by decide +kernel
theorem dX7_put_13 : decode cX7_put 13 = .ok (.invokevirtual 158, 3) := by decide +kernel
theorem dX7_put_16 : decode cX7_put 16 = .ok (.ifCond .ne 12, 3) := by decide +kernel
theorem dX7_put_19 : decode cX7_put 19 = .ok (.aload 4, 2) := by decide +kernel
theorem dX7_put_21 : decode cX7_put 21 = .ok (.iload_n 2, 1) := by decide +kernel
theorem dX7_put_22 : decode cX7_put 22 = .ok (.invokevirtual 161, 3) := by decide +kernel
theorem dX7_put_25 : decode cX7_put 25 = .ok (.ifCond .ne 13, 3) := by decide +kernel
theorem dX7_put_28 : decode cX7_put 28 = .ok (.new 44, 3) := by decide +kernel
theorem dX7_put_31 : decode cX7_put 31 = .ok (.dup, 1) := by decide +kernel
theorem dX7_put_32 : decode cX7_put 32 = .ok (.ldc 164, 2) := by decide +kernel
theorem dX7_put_34 : decode cX7_put 34 = .ok (.invokespecial 48, 3) := by decide +kernel
theorem dX7_put_37 : decode cX7_put 37 = .ok (.athrow, 1) := by decide +kernel
theorem dX7_put_38 : decode cX7_put 38 = .ok (.aload 4, 2) := by decide +kernel
theorem dX7_put_40 : decode cX7_put 40 = .ok (.iload_n 2, 1) := by decide +kernel
theorem dX7_put_41 : decode cX7_put 41 = .ok (.iload_n 3, 1) := by decide +kernel
theorem dX7_put_42 : decode cX7_put 42 = .ok (.invokevirtual 166, 3) := by decide +kernel
theorem dX7_put_45 : decode cX7_put 45 = .ok (.ifCond .ne 13, 3) := by decide +kernel
theorem dX7_put_48 : decode cX7_put 48 = .ok (.new 75, 3) := by decide +kernel
theorem dX7_put_51 : decode cX7_put 51 = .ok (.dup, 1) := by decide +kernel
theorem dX7_put_52 : decode cX7_put 52 = .ok (.ldc 170, 2) := by decide +kernel
theorem dX7_put_54 : decode cX7_put 54 = .ok (.invokespecial 79, 3) := by decide +kernel
theorem dX7_put_57 : decode cX7_put 57 = .ok (.athrow, 1) := by decide +kernel
theorem dX7_put_58 : decode cX7_put 58 = .ok (.aload 4, 2) := by decide +kernel
theorem dX7_put_60 : decode cX7_put 60 = .ok (.iload_n 2, 1) := by decide +kernel
theorem dX7_put_61 : decode cX7_put 61 = .ok (.iload_n 3, 1) := by decide +kernel
theorem dX7_put_62 : decode cX7_put 62 = .ok (.invokevirtual 172, 3) := by decide +kernel
theorem dX7_put_65 : decode cX7_put 65 = .ok (.aload 4, 2) := by decide +kernel
theorem dX7_put_67 : decode cX7_put 67 = .ok (.invokevirtual 175, 3) := by decide +kernel
theorem dX7_put_70 : decode cX7_put 70 = .ok (.ireturn, 1) := by decide +kernel
theorem dX7_handIn_0 : decode cX7_handIn 0 = .ok (.aload_n 0, 1) := by decide +kernel
theorem dX7_handIn_1 : decode cX7_handIn 1 = .ok (.iload_n 1, 1) := by decide +kernel
theorem dX7_handIn_2 : decode cX7_handIn 2 = .ok (.invokevirtual 154, 3) := by decide +kernel
theorem dX7_handIn_5 : decode cX7_handIn 5 = .ok (.astore_n 2, 1) := by decide +kernel
theorem dX7_handIn_6 : decode cX7_handIn 6 = .ok (.aload_n 2, 1) := by decide +kernel
theorem dX7_handIn_7 : decode cX7_handIn 7 = .ok (.invokevirtual 158, 3) := by decide +kernel
theorem dX7_handIn_10 : decode cX7_handIn 10 = .ok (.ifCond .ne 10, 3) := by decide +kernel
theorem dX7_handIn_13 : decode cX7_handIn 13 = .ok (.aload_n 2, 1) := by decide +kernel
theorem dX7_handIn_14 : decode cX7_handIn 14 = .ok (.invokevirtual 175, 3) := by decide +kernel
theorem dX7_handIn_17 : decode cX7_handIn 17 = .ok (.ifCond .le 13, 3) := by decide +kernel
theorem dX7_handIn_20 : decode cX7_handIn 20 = .ok (.new 44, 3) := by decide +kernel
theorem dX7_handIn_23 : decode cX7_handIn 23 = .ok (.dup, 1) := by decide +kernel
theorem dX7_handIn_24 : decode cX7_handIn 24 = .ok (.ldc 178, 2) := by decide +kernel
theorem dX7_handIn_26 : decode cX7_handIn 26 = .ok (.invokespecial 48, 3) := by decide +kernel
theorem dX7_handIn_29 : decode cX7_handIn 29 = .ok (.athrow, 1) := by decide +kernel
theorem dX7_handIn_30 : decode cX7_handIn 30 = .ok (.aload_n 2, 1) := by decide +kernel
theorem dX7_handIn_31 : decode cX7_handIn 31 = .ok (.invokevirtual 180, 3) := by decide +kernel
theorem dX7_handIn_34 : decode cX7_handIn 34 = .ok (.aload_n 2, 1) := by decide +kernel
theorem dX7_handIn_35 : decode cX7_handIn 35 = .ok (.invokevirtual 158, 3) := by decide +kernel
theorem dX7_handIn_38 : decode cX7_handIn 38 = .ok (.ireturn, 1) := by decide +kernel
theorem dX7_answers_0 : decode cX7_answers 0 = .ok (.aload_n 0, 1) := by decide +kernel
theorem dX7_answers_1 : decode cX7_answers 1 = .ok (.getfield 37, 3) := by decide +kernel
theorem dX7_answers_4 : decode cX7_answers 4 = .ok (.ireturn, 1) := by decide +kernel
theorem dX7_stateOf_0 : decode cX7_stateOf 0 = .ok (.aload_n 0, 1) := by decide +kernel
theorem dX7_stateOf_1 : decode cX7_stateOf 1 = .ok (.iload_n 1, 1) := by decide +kernel
theorem dX7_stateOf_2 : decode cX7_stateOf 2 = .ok (.invokevirtual 154, 3) := by decide +kernel
theorem dX7_stateOf_5 : decode cX7_stateOf 5 = .ok (.invokevirtual 158, 3) := by decide +kernel
theorem dX7_stateOf_8 : decode cX7_stateOf 8 = .ok (.ireturn, 1) := by decide +kernel
theorem dX7_versionOf_0 : decode cX7_versionOf 0 = .ok (.aload_n 0, 1) := by decide +kernel
theorem dX7_versionOf_1 : decode cX7_versionOf 1 = .ok (.iload_n 1, 1) := by decide +kernel
theorem dX7_versionOf_2 : decode cX7_versionOf 2 = .ok (.invokevirtual 154, 3) := by decide +kernel
theorem dX7_versionOf_5 : decode cX7_versionOf 5 = .ok (.invokevirtual 183, 3) := by decide +kernel
theorem dX7_versionOf_8 : decode cX7_versionOf 8 = .ok (.ireturn, 1) := by decide +kernel
theorem dX7_value_0 : decode cX7_value 0 = .ok (.aload_n 0, 1) := by decide +kernel
theorem dX7_value_1 : decode cX7_value 1 = .ok (.iload_n 1, 1) := by decide +kernel
theorem dX7_value_2 : decode cX7_value 2 = .ok (.invokevirtual 154, 3) := by decide +kernel
theorem dX7_value_5 : decode cX7_value 5 = .ok (.astore_n 3, 1) := by decide +kernel
theorem dX7_value_6 : decode cX7_value 6 = .ok (.iload_n 2, 1) := by decide +kernel
theorem dX7_value_7 : decode cX7_value 7 = .ok (.invokestatic 71, 3) := by decide +kernel
theorem dX7_value_10 : decode cX7_value 10 = .ok (.aload_n 3, 1) := by decide +kernel
theorem dX7_value_11 : decode cX7_value 11 = .ok (.iload_n 2, 1) := by decide +kernel
theorem dX7_value_12 : decode cX7_value 12 = .ok (.invokevirtual 186, 3) := by decide +kernel
theorem dX7_value_15 : decode cX7_value 15 = .ok (.ifCond .ne 13, 3) := by decide +kernel
theorem dX7_value_18 : decode cX7_value 18 = .ok (.new 44, 3) := by decide +kernel
theorem dX7_value_21 : decode cX7_value 21 = .ok (.dup, 1) := by decide +kernel
theorem dX7_value_22 : decode cX7_value 22 = .ok (.ldc 189, 2) := by decide +kernel
theorem dX7_value_24 : decode cX7_value 24 = .ok (.invokespecial 48, 3) := by decide +kernel
theorem dX7_value_27 : decode cX7_value 27 = .ok (.athrow, 1) := by decide +kernel
theorem dX7_value_28 : decode cX7_value 28 = .ok (.aload_n 3, 1) := by decide +kernel
theorem dX7_value_29 : decode cX7_value 29 = .ok (.iload_n 2, 1) := by decide +kernel
theorem dX7_value_30 : decode cX7_value 30 = .ok (.invokevirtual 191, 3) := by decide +kernel
theorem dX7_value_33 : decode cX7_value 33 = .ok (.ireturn, 1) := by decide +kernel
theorem dX7_refusal_0 : decode cX7_refusal 0 = .ok (.aload_n 0, 1) := by decide +kernel
theorem dX7_refusal_1 : decode cX7_refusal 1 = .ok (.iload_n 1, 1) := by decide +kernel
theorem dX7_refusal_2 : decode cX7_refusal 2 = .ok (.invokevirtual 154, 3) := by decide +kernel
theorem dX7_refusal_5 : decode cX7_refusal 5 = .ok (.astore_n 2, 1) := by decide +kernel
theorem dX7_refusal_6 : decode cX7_refusal 6 = .ok (.aload_n 2, 1) := by decide +kernel
theorem dX7_refusal_7 : decode cX7_refusal 7 = .ok (.invokevirtual 158, 3) := by decide +kernel
theorem dX7_refusal_10 : decode cX7_refusal 10 = .ok (.ifCond .ne 13, 3) := by decide +kernel
theorem dX7_refusal_13 : decode cX7_refusal 13 = .ok (.new 44, 3) := by decide +kernel
theorem dX7_refusal_16 : decode cX7_refusal 16 = .ok (.dup, 1) := by decide +kernel
theorem dX7_refusal_17 : decode cX7_refusal 17 = .ok (.ldc 194, 2) := by decide +kernel
theorem dX7_refusal_19 : decode cX7_refusal 19 = .ok (.invokespecial 48, 3) := by decide +kernel
theorem dX7_refusal_22 : decode cX7_refusal 22 = .ok (.athrow, 1) := by decide +kernel
theorem dX7_refusal_23 : decode cX7_refusal 23 = .ok (.aload_n 2, 1) := by decide +kernel
theorem dX7_refusal_24 : decode cX7_refusal 24 = .ok (.invokevirtual 196, 3) := by decide +kernel
theorem dX7_refusal_27 : decode cX7_refusal 27 = .ok (.ireturn, 1) := by decide +kernel
theorem dX7_counted_0 : decode cX7_counted 0 = .ok (.iconst 0, 1) := by decide +kernel
theorem dX7_counted_1 : decode cX7_counted 1 = .ok (.istore_n 1, 1) := by decide +kernel
theorem dX7_counted_2 : decode cX7_counted 2 = .ok (.iconst 0, 1) := by decide +kernel
theorem dX7_counted_3 : decode cX7_counted 3 = .ok (.istore_n 2, 1) := by decide +kernel
theorem dX7_counted_4 : decode cX7_counted 4 = .ok (.iload_n 2, 1) := by decide +kernel
theorem dX7_counted_5 : decode cX7_counted 5 = .ok (.aload_n 0, 1) := by decide +kernel
theorem dX7_counted_6 : decode cX7_counted 6 = .ok (.getfield 37, 3) := by decide +kernel
theorem dX7_counted_9 : decode cX7_counted 9 = .ok (.if_icmp .ge 37, 3) := by decide +kernel
theorem dX7_counted_12 : decode cX7_counted 12 = .ok (.iload_n 2, 1) := by decide +kernel
theorem dX7_counted_13 : decode cX7_counted 13 = .ok (.bipush 20, 2) := by decide +kernel
theorem dX7_counted_15 : decode cX7_counted 15 = .ok (.if_icmp .ge 31, 3) := by decide +kernel
theorem dX7_counted_18 : decode cX7_counted 18 = .ok (.aload_n 0, 1) := by decide +kernel
theorem dX7_counted_19 : decode cX7_counted 19 = .ok (.getfield 33, 3) := by decide +kernel
theorem dX7_counted_22 : decode cX7_counted 22 = .ok (.iload_n 2, 1) := by decide +kernel
theorem dX7_counted_23 : decode cX7_counted 23 = .ok (.aaload, 1) := by decide +kernel
theorem dX7_counted_24 : decode cX7_counted 24 = .ok (.astore_n 3, 1) := by decide +kernel
theorem dX7_counted_25 : decode cX7_counted 25 = .ok (.aload_n 3, 1) := by decide +kernel
theorem dX7_counted_26 : decode cX7_counted 26 = .ok (.ifnull 14, 3) := by decide +kernel
theorem dX7_counted_29 : decode cX7_counted 29 = .ok (.aload_n 3, 1) := by decide +kernel
theorem dX7_counted_30 : decode cX7_counted 30 = .ok (.invokevirtual 158, 3) := by decide +kernel
theorem dX7_counted_33 : decode cX7_counted 33 = .ok (.iconst 1, 1) := by decide +kernel
theorem dX7_counted_34 : decode cX7_counted 34 = .ok (.if_icmp .ne 6, 3) := by decide +kernel
theorem dX7_counted_37 : decode cX7_counted 37 = .ok (.iinc 1 1, 3) := by decide +kernel
theorem dX7_counted_40 : decode cX7_counted 40 = .ok (.iinc 2 1, 3) := by decide +kernel
theorem dX7_counted_43 : decode cX7_counted 43 = .ok (.goto (-39), 3) := by decide +kernel
theorem dX7_counted_46 : decode cX7_counted 46 = .ok (.iload_n 1, 1) := by decide +kernel
theorem dX7_counted_47 : decode cX7_counted 47 = .ok (.ireturn, 1) := by decide +kernel
theorem dX7_doubt_0 : decode cX7_doubt 0 = .ok (.aload_n 0, 1) := by decide +kernel
theorem dX7_doubt_1 : decode cX7_doubt 1 = .ok (.iload_n 1, 1) := by decide +kernel
theorem dX7_doubt_2 : decode cX7_doubt 2 = .ok (.invokevirtual 154, 3) := by decide +kernel
theorem dX7_doubt_5 : decode cX7_doubt 5 = .ok (.astore_n 3, 1) := by decide +kernel
theorem dX7_doubt_6 : decode cX7_doubt 6 = .ok (.iload_n 2, 1) := by decide +kernel
theorem dX7_doubt_7 : decode cX7_doubt 7 = .ok (.invokestatic 71, 3) := by decide +kernel
theorem dX7_doubt_10 : decode cX7_doubt 10 = .ok (.aload_n 3, 1) := by decide +kernel
theorem dX7_doubt_11 : decode cX7_doubt 11 = .ok (.invokevirtual 199, 3) := by decide +kernel
theorem dX7_doubt_14 : decode cX7_doubt 14 = .ok (.ifCond .eq 11, 3) := by decide +kernel
theorem dX7_doubt_17 : decode cX7_doubt 17 = .ok (.aload_n 3, 1) := by decide +kernel
theorem dX7_doubt_18 : decode cX7_doubt 18 = .ok (.iload_n 2, 1) := by decide +kernel
theorem dX7_doubt_19 : decode cX7_doubt 19 = .ok (.invokevirtual 203, 3) := by decide +kernel
theorem dX7_doubt_22 : decode cX7_doubt 22 = .ok (.ifCond .ne 13, 3) := by decide +kernel
theorem dX7_doubt_25 : decode cX7_doubt 25 = .ok (.new 44, 3) := by decide +kernel
theorem dX7_doubt_28 : decode cX7_doubt 28 = .ok (.dup, 1) := by decide +kernel
theorem dX7_doubt_29 : decode cX7_doubt 29 = .ok (.ldc 206, 2) := by decide +kernel
theorem dX7_doubt_31 : decode cX7_doubt 31 = .ok (.invokespecial 48, 3) := by decide +kernel
theorem dX7_doubt_34 : decode cX7_doubt 34 = .ok (.athrow, 1) := by decide +kernel
theorem dX7_doubt_35 : decode cX7_doubt 35 = .ok (.aload_n 3, 1) := by decide +kernel
theorem dX7_doubt_36 : decode cX7_doubt 36 = .ok (.iload_n 2, 1) := by decide +kernel
theorem dX7_doubt_37 : decode cX7_doubt 37 = .ok (.invokevirtual 208, 3) := by decide +kernel
theorem dX7_doubt_40 : decode cX7_doubt 40 = .ok (.istore 4, 2) := by decide +kernel
theorem dX7_doubt_42 : decode cX7_doubt 42 = .ok (.aload_n 3, 1) := by decide +kernel
theorem dX7_doubt_43 : decode cX7_doubt 43 = .ok (.iconst 1, 1) := by decide +kernel
theorem dX7_doubt_44 : decode cX7_doubt 44 = .ok (.iload_n 2, 1) := by decide +kernel
theorem dX7_doubt_45 : decode cX7_doubt 45 = .ok (.ishl, 1) := by decide +kernel
theorem dX7_doubt_46 : decode cX7_doubt 46 = .ok (.invokevirtual 211, 3) := by decide +kernel
theorem dX7_doubt_49 : decode cX7_doubt 49 = .ok (.iload 4, 2) := by decide +kernel
theorem dX7_doubt_51 : decode cX7_doubt 51 = .ok (.ireturn, 1) := by decide +kernel
theorem dX7_settle_0 : decode cX7_settle 0 = .ok (.aload_n 0, 1) := by decide +kernel
theorem dX7_settle_1 : decode cX7_settle 1 = .ok (.iload_n 1, 1) := by decide +kernel
theorem dX7_settle_2 : decode cX7_settle 2 = .ok (.invokevirtual 154, 3) := by decide +kernel
theorem dX7_settle_5 : decode cX7_settle 5 = .ok (.astore 4, 2) := by decide +kernel
theorem dX7_settle_7 : decode cX7_settle 7 = .ok (.iload_n 2, 1) := by decide +kernel
theorem dX7_settle_8 : decode cX7_settle 8 = .ok (.invokestatic 71, 3) := by decide +kernel
theorem dX7_settle_11 : decode cX7_settle 11 = .ok (.aload 4, 2) := by decide +kernel
theorem dX7_settle_13 : decode cX7_settle 13 = .ok (.invokevirtual 158, 3) := by decide +kernel
theorem dX7_settle_16 : decode cX7_settle 16 = .ok (.iconst 3, 1) := by decide +kernel
theorem dX7_settle_17 : decode cX7_settle 17 = .ok (.if_icmp .ne 12, 3) := by decide +kernel
theorem dX7_settle_20 : decode cX7_settle 20 = .ok (.aload 4, 2) := by decide +kernel
theorem dX7_settle_22 : decode cX7_settle 22 = .ok (.iload_n 2, 1) := by decide +kernel
theorem dX7_settle_23 : decode cX7_settle 23 = .ok (.invokevirtual 208, 3) := by decide +kernel
theorem dX7_settle_26 : decode cX7_settle 26 = .ok (.ifCond .ne 13, 3) := by decide +kernel
theorem dX7_settle_29 : decode cX7_settle 29 = .ok (.new 44, 3) := by decide +kernel
theorem dX7_settle_32 : decode cX7_settle 32 = .ok (.dup, 1) := by decide +kernel
theorem dX7_settle_33 : decode cX7_settle 33 = .ok (.ldc 214, 2) := by decide +kernel
theorem dX7_settle_35 : decode cX7_settle 35 = .ok (.invokespecial 48, 3) := by decide +kernel
theorem dX7_settle_38 : decode cX7_settle 38 = .ok (.athrow, 1) := by decide +kernel
theorem dX7_settle_39 : decode cX7_settle 39 = .ok (.iload_n 3, 1) := by decide +kernel
theorem dX7_settle_40 : decode cX7_settle 40 = .ok (.ifCond .eq 12, 3) := by decide +kernel
theorem dX7_settle_43 : decode cX7_settle 43 = .ok (.aload 4, 2) := by decide +kernel
theorem dX7_settle_45 : decode cX7_settle 45 = .ok (.iload_n 2, 1) := by decide +kernel
theorem dX7_settle_46 : decode cX7_settle 46 = .ok (.invokevirtual 216, 3) := by decide +kernel
theorem dX7_settle_49 : decode cX7_settle 49 = .ok (.goto 8, 3) := by decide +kernel
theorem dX7_settle_52 : decode cX7_settle 52 = .ok (.aload 4, 2) := by decide +kernel
theorem dX7_settle_54 : decode cX7_settle 54 = .ok (.invokevirtual 219, 3) := by decide +kernel
theorem dX7_settle_57 : decode cX7_settle 57 = .ok (.aload 4, 2) := by decide +kernel
theorem dX7_settle_59 : decode cX7_settle 59 = .ok (.invokevirtual 158, 3) := by decide +kernel
theorem dX7_settle_62 : decode cX7_settle 62 = .ok (.ireturn, 1) := by decide +kernel
theorem dX7_amend_0 : decode cX7_amend 0 = .ok (.aload_n 0, 1) := by decide +kernel
theorem dX7_amend_1 : decode cX7_amend 1 = .ok (.iload_n 1, 1) := by decide +kernel
theorem dX7_amend_2 : decode cX7_amend 2 = .ok (.invokevirtual 154, 3) := by decide +kernel
theorem dX7_amend_5 : decode cX7_amend 5 = .ok (.astore 4, 2) := by decide +kernel
theorem dX7_amend_7 : decode cX7_amend 7 = .ok (.iload_n 2, 1) := by decide +kernel
theorem dX7_amend_8 : decode cX7_amend 8 = .ok (.invokestatic 71, 3) := by decide +kernel
theorem dX7_amend_11 : decode cX7_amend 11 = .ok (.aload 4, 2) := by decide +kernel
theorem dX7_amend_13 : decode cX7_amend 13 = .ok (.invokevirtual 158, 3) := by decide +kernel
theorem dX7_amend_16 : decode cX7_amend 16 = .ok (.iconst 3, 1) := by decide +kernel
theorem dX7_amend_17 : decode cX7_amend 17 = .ok (.if_icmp .ne 12, 3) := by decide +kernel
theorem dX7_amend_20 : decode cX7_amend 20 = .ok (.aload 4, 2) := by decide +kernel
theorem dX7_amend_22 : decode cX7_amend 22 = .ok (.iload_n 2, 1) := by decide +kernel
theorem dX7_amend_23 : decode cX7_amend 23 = .ok (.invokevirtual 161, 3) := by decide +kernel
theorem dX7_amend_26 : decode cX7_amend 26 = .ok (.ifCond .ne 13, 3) := by decide +kernel
theorem dX7_amend_29 : decode cX7_amend 29 = .ok (.new 44, 3) := by decide +kernel
theorem dX7_amend_32 : decode cX7_amend 32 = .ok (.dup, 1) := by decide +kernel
theorem dX7_amend_33 : decode cX7_amend 33 = .ok (.ldc 222, 2) := by decide +kernel
theorem dX7_amend_35 : decode cX7_amend 35 = .ok (.invokespecial 48, 3) := by decide +kernel
theorem dX7_amend_38 : decode cX7_amend 38 = .ok (.athrow, 1) := by decide +kernel
theorem dX7_amend_39 : decode cX7_amend 39 = .ok (.aload 4, 2) := by decide +kernel
theorem dX7_amend_41 : decode cX7_amend 41 = .ok (.iload_n 2, 1) := by decide +kernel
theorem dX7_amend_42 : decode cX7_amend 42 = .ok (.iload_n 3, 1) := by decide +kernel
theorem dX7_amend_43 : decode cX7_amend 43 = .ok (.invokevirtual 166, 3) := by decide +kernel
theorem dX7_amend_46 : decode cX7_amend 46 = .ok (.ifCond .ne 13, 3) := by decide +kernel
theorem dX7_amend_49 : decode cX7_amend 49 = .ok (.new 75, 3) := by decide +kernel
theorem dX7_amend_52 : decode cX7_amend 52 = .ok (.dup, 1) := by decide +kernel
theorem dX7_amend_53 : decode cX7_amend 53 = .ok (.ldc 170, 2) := by decide +kernel
theorem dX7_amend_55 : decode cX7_amend 55 = .ok (.invokespecial 79, 3) := by decide +kernel
theorem dX7_amend_58 : decode cX7_amend 58 = .ok (.athrow, 1) := by decide +kernel
theorem dX7_amend_59 : decode cX7_amend 59 = .ok (.aload 4, 2) := by decide +kernel
theorem dX7_amend_61 : decode cX7_amend 61 = .ok (.iload_n 2, 1) := by decide +kernel
theorem dX7_amend_62 : decode cX7_amend 62 = .ok (.iload_n 3, 1) := by decide +kernel
theorem dX7_amend_63 : decode cX7_amend 63 = .ok (.invokevirtual 172, 3) := by decide +kernel
theorem dX7_amend_66 : decode cX7_amend 66 = .ok (.aload 4, 2) := by decide +kernel
theorem dX7_amend_68 : decode cX7_amend 68 = .ok (.iload_n 2, 1) := by decide +kernel
theorem dX7_amend_69 : decode cX7_amend 69 = .ok (.invokevirtual 216, 3) := by decide +kernel
theorem dX7_amend_72 : decode cX7_amend 72 = .ok (.aload 4, 2) := by decide +kernel
theorem dX7_amend_74 : decode cX7_amend 74 = .ok (.invokevirtual 180, 3) := by decide +kernel
theorem dX7_amend_77 : decode cX7_amend 77 = .ok (.aload 4, 2) := by decide +kernel
theorem dX7_amend_79 : decode cX7_amend 79 = .ok (.invokevirtual 158, 3) := by decide +kernel
theorem dX7_amend_82 : decode cX7_amend 82 = .ok (.ireturn, 1) := by decide +kernel
theorem dX7_doubts_0 : decode cX7_doubts 0 = .ok (.aload_n 0, 1) := by decide +kernel
theorem dX7_doubts_1 : decode cX7_doubts 1 = .ok (.iload_n 1, 1) := by decide +kernel
theorem dX7_doubts_2 : decode cX7_doubts 2 = .ok (.invokevirtual 154, 3) := by decide +kernel
theorem dX7_doubts_5 : decode cX7_doubts 5 = .ok (.invokevirtual 224, 3) := by decide +kernel
theorem dX7_doubts_8 : decode cX7_doubts 8 = .ok (.ireturn, 1) := by decide +kernel
theorem dX7_requireField_0 : decode cX7_requireField 0 = .ok (.iload_n 0, 1) := by decide +kernel
theorem dX7_requireField_1 : decode cX7_requireField 1 = .ok (.ifCond .lt 9, 3) := by decide +kernel
theorem dX7_requireField_4 : decode cX7_requireField 4 = .ok (.iload_n 0, 1) := by decide +kernel
theorem dX7_requireField_5 : decode cX7_requireField 5 = .ok (.bipush 6, 2) := by decide +kernel
theorem dX7_requireField_7 : decode cX7_requireField 7 = .ok (.if_icmp .lt 13, 3) := by decide +kernel
theorem dX7_requireField_10 : decode cX7_requireField 10 = .ok (.new 227, 3) := by decide +kernel
theorem dX7_requireField_13 : decode cX7_requireField 13 = .ok (.dup, 1) := by decide +kernel
theorem dX7_requireField_14 : decode cX7_requireField 14 = .ok (.ldc 229, 2) := by decide +kernel
theorem dX7_requireField_16 : decode cX7_requireField 16 = .ok (.invokespecial 231, 3) := by decide +kernel
theorem dX7_requireField_19 : decode cX7_requireField 19 = .ok (.athrow, 1) := by decide +kernel
theorem dX7_requireField_20 : decode cX7_requireField 20 = .ok (.return_, 1) := by decide +kernel
theorem dX7_requireFormula_0 : decode cX7_requireFormula 0 = .ok (.iload_n 0, 1) := by decide +kernel
theorem dX7_requireFormula_1 : decode cX7_requireFormula 1 = .ok (.ifCond .lt 9, 3) := by decide +kernel
theorem dX7_requireFormula_4 : decode cX7_requireFormula 4 = .ok (.iload_n 0, 1) := by decide +kernel
theorem dX7_requireFormula_5 : decode cX7_requireFormula 5 = .ok (.bipush 10, 2) := by decide +kernel
theorem dX7_requireFormula_7 : decode cX7_requireFormula 7 = .ok (.if_icmp .lt 13, 3) := by decide +kernel
theorem dX7_requireFormula_10 : decode cX7_requireFormula 10 = .ok (.new 227, 3) := by decide +kernel
theorem dX7_requireFormula_13 : decode cX7_requireFormula 13 = .ok (.dup, 1) := by decide +kernel
theorem dX7_requireFormula_14 : decode cX7_requireFormula 14 = .ok (.ldc 232, 2) := by decide +kernel
theorem dX7_requireFormula_16 : decode cX7_requireFormula 16 = .ok (.invokespecial 231, 3) := by decide +kernel
theorem dX7_requireFormula_19 : decode cX7_requireFormula 19 = .ok (.athrow, 1) := by decide +kernel
theorem dX7_requireFormula_20 : decode cX7_requireFormula 20 = .ok (.return_, 1) := by decide +kernel
theorem dX7_requirePlace_0 : decode cX7_requirePlace 0 = .ok (.iload_n 0, 1) := by decide +kernel
theorem dX7_requirePlace_1 : decode cX7_requirePlace 1 = .ok (.ifCond .ge 13, 3) := by decide +kernel
theorem dX7_requirePlace_4 : decode cX7_requirePlace 4 = .ok (.new 227, 3) := by decide +kernel
theorem dX7_requirePlace_7 : decode cX7_requirePlace 7 = .ok (.dup, 1) := by decide +kernel
theorem dX7_requirePlace_8 : decode cX7_requirePlace 8 = .ok (.ldc 234, 2) := by decide +kernel
theorem dX7_requirePlace_10 : decode cX7_requirePlace 10 = .ok (.invokespecial 231, 3) := by decide +kernel
theorem dX7_requirePlace_13 : decode cX7_requirePlace 13 = .ok (.athrow, 1) := by decide +kernel
theorem dX7_requirePlace_14 : decode cX7_requirePlace 14 = .ok (.return_, 1) := by decide +kernel
theorem dX7_requireVersion_0 : decode cX7_requireVersion 0 = .ok (.iload_n 1, 1) := by decide +kernel
theorem dX7_requireVersion_1 : decode cX7_requireVersion 1 = .ok (.ifCond .lt 26, 3) := by decide +kernel
theorem dX7_requireVersion_4 : decode cX7_requireVersion 4 = .ok (.iload_n 1, 1) := by decide +kernel
theorem dX7_requireVersion_5 : decode cX7_requireVersion 5 = .ok (.aload_n 0, 1) := by decide +kernel
theorem dX7_requireVersion_6 : decode cX7_requireVersion 6 = .ok (.getfield 27, 3) := by decide +kernel
theorem dX7_requireVersion_9 : decode cX7_requireVersion 9 = .ok (.if_icmp .ge 18, 3) := by decide +kernel
theorem dX7_requireVersion_12 : decode cX7_requireVersion 12 = .ok (.iload_n 1, 1) := by decide +kernel
theorem dX7_requireVersion_13 : decode cX7_requireVersion 13 = .ok (.bipush 10, 2) := by decide +kernel
theorem dX7_requireVersion_15 : decode cX7_requireVersion 15 = .ok (.if_icmp .ge 12, 3) := by decide +kernel
theorem dX7_requireVersion_18 : decode cX7_requireVersion 18 = .ok (.aload_n 0, 1) := by decide +kernel
theorem dX7_requireVersion_19 : decode cX7_requireVersion 19 = .ok (.getfield 23, 3) := by decide +kernel
theorem dX7_requireVersion_22 : decode cX7_requireVersion 22 = .ok (.iload_n 1, 1) := by decide +kernel
theorem dX7_requireVersion_23 : decode cX7_requireVersion 23 = .ok (.aaload, 1) := by decide +kernel
theorem dX7_requireVersion_24 : decode cX7_requireVersion 24 = .ok (.goto 4, 3) := by decide +kernel
theorem dX7_requireVersion_27 : decode cX7_requireVersion 27 = .ok (.aconst_null, 1) := by decide +kernel
theorem dX7_requireVersion_28 : decode cX7_requireVersion 28 = .ok (.astore_n 2, 1) := by decide +kernel
theorem dX7_requireVersion_29 : decode cX7_requireVersion 29 = .ok (.aload_n 2, 1) := by decide +kernel
theorem dX7_requireVersion_30 : decode cX7_requireVersion 30 = .ok (.ifnonnull 13, 3) := by decide +kernel
theorem dX7_requireVersion_33 : decode cX7_requireVersion 33 = .ok (.new 227, 3) := by decide +kernel
theorem dX7_requireVersion_36 : decode cX7_requireVersion 36 = .ok (.dup, 1) := by decide +kernel
theorem dX7_requireVersion_37 : decode cX7_requireVersion 37 = .ok (.ldc 236, 2) := by decide +kernel
theorem dX7_requireVersion_39 : decode cX7_requireVersion 39 = .ok (.invokespecial 231, 3) := by decide +kernel
theorem dX7_requireVersion_42 : decode cX7_requireVersion 42 = .ok (.athrow, 1) := by decide +kernel
theorem dX7_requireVersion_43 : decode cX7_requireVersion 43 = .ok (.aload_n 2, 1) := by decide +kernel
theorem dX7_requireVersion_44 : decode cX7_requireVersion 44 = .ok (.areturn, 1) := by decide +kernel
theorem dX7_requireAnswer_0 : decode cX7_requireAnswer 0 = .ok (.iload_n 1, 1) := by decide +kernel
theorem dX7_requireAnswer_1 : decode cX7_requireAnswer 1 = .ok (.ifCond .lt 26, 3) := by decide +kernel
theorem dX7_requireAnswer_4 : decode cX7_requireAnswer 4 = .ok (.iload_n 1, 1) := by decide +kernel
theorem dX7_requireAnswer_5 : decode cX7_requireAnswer 5 = .ok (.aload_n 0, 1) := by decide +kernel
theorem dX7_requireAnswer_6 : decode cX7_requireAnswer 6 = .ok (.getfield 37, 3) := by decide +kernel
theorem dX7_requireAnswer_9 : decode cX7_requireAnswer 9 = .ok (.if_icmp .ge 18, 3) := by decide +kernel
theorem dX7_requireAnswer_12 : decode cX7_requireAnswer 12 = .ok (.iload_n 1, 1) := by decide +kernel
theorem dX7_requireAnswer_13 : decode cX7_requireAnswer 13 = .ok (.bipush 20, 2) := by decide +kernel
theorem dX7_requireAnswer_15 : decode cX7_requireAnswer 15 = .ok (.if_icmp .ge 12, 3) := by decide +kernel
theorem dX7_requireAnswer_18 : decode cX7_requireAnswer 18 = .ok (.aload_n 0, 1) := by decide +kernel
theorem dX7_requireAnswer_19 : decode cX7_requireAnswer 19 = .ok (.getfield 33, 3) := by decide +kernel
theorem dX7_requireAnswer_22 : decode cX7_requireAnswer 22 = .ok (.iload_n 1, 1) := by decide +kernel
theorem dX7_requireAnswer_23 : decode cX7_requireAnswer 23 = .ok (.aaload, 1) := by decide +kernel
theorem dX7_requireAnswer_24 : decode cX7_requireAnswer 24 = .ok (.goto 4, 3) := by decide +kernel
theorem dX7_requireAnswer_27 : decode cX7_requireAnswer 27 = .ok (.aconst_null, 1) := by decide +kernel
theorem dX7_requireAnswer_28 : decode cX7_requireAnswer 28 = .ok (.astore_n 2, 1) := by decide +kernel
theorem dX7_requireAnswer_29 : decode cX7_requireAnswer 29 = .ok (.aload_n 2, 1) := by decide +kernel
theorem dX7_requireAnswer_30 : decode cX7_requireAnswer 30 = .ok (.ifnonnull 13, 3) := by decide +kernel
theorem dX7_requireAnswer_33 : decode cX7_requireAnswer 33 = .ok (.new 227, 3) := by decide +kernel
theorem dX7_requireAnswer_36 : decode cX7_requireAnswer 36 = .ok (.dup, 1) := by decide +kernel
theorem dX7_requireAnswer_37 : decode cX7_requireAnswer 37 = .ok (.ldc 238, 2) := by decide +kernel
theorem dX7_requireAnswer_39 : decode cX7_requireAnswer 39 = .ok (.invokespecial 231, 3) := by decide +kernel
theorem dX7_requireAnswer_42 : decode cX7_requireAnswer 42 = .ok (.athrow, 1) := by decide +kernel
theorem dX7_requireAnswer_43 : decode cX7_requireAnswer 43 = .ok (.aload_n 2, 1) := by decide +kernel
theorem dX7_requireAnswer_44 : decode cX7_requireAnswer 44 = .ok (.areturn, 1) := by decide +kernel
theorem dX7_isIn_0 : decode cX7_isIn 0 = .ok (.iload_n 0, 1) := by decide +kernel
theorem dX7_isIn_1 : decode cX7_isIn 1 = .ok (.iload_n 1, 1) := by decide +kernel
theorem dX7_isIn_2 : decode cX7_isIn 2 = .ok (.ishr, 1) := by decide +kernel
theorem dX7_isIn_3 : decode cX7_isIn 3 = .ok (.iconst 1, 1) := by decide +kernel
theorem dX7_isIn_4 : decode cX7_isIn 4 = .ok (.iand, 1) := by decide +kernel
theorem dX7_isIn_5 : decode cX7_isIn 5 = .ok (.iconst 1, 1) := by decide +kernel
theorem dX7_isIn_6 : decode cX7_isIn 6 = .ok (.if_icmp .ne 7, 3) := by decide +kernel
theorem dX7_isIn_9 : decode cX7_isIn 9 = .ok (.iconst 1, 1) := by decide +kernel
theorem dX7_isIn_10 : decode cX7_isIn 10 = .ok (.goto 4, 3) := by decide +kernel
theorem dX7_isIn_13 : decode cX7_isIn 13 = .ok (.iconst 0, 1) := by decide +kernel
theorem dX7_isIn_14 : decode cX7_isIn 14 = .ok (.ireturn, 1) := by decide +kernel
theorem dX8_init_0 : decode cX8_init 0 = .ok (.aload_n 0, 1) := by decide +kernel
theorem dX8_init_1 : decode cX8_init 1 = .ok (.invokespecial 1, 3) := by decide +kernel
theorem dX8_init_4 : decode cX8_init 4 = .ok (.aload_n 0, 1) := by decide +kernel
theorem dX8_init_5 : decode cX8_init 5 = .ok (.bipush 40, 2) := by decide +kernel
theorem dX8_init_7 : decode cX8_init 7 = .ok (.newarray .int, 2) := by decide +kernel
theorem dX8_init_9 : decode cX8_init 9 = .ok (.putfield 7, 3) := by decide +kernel
theorem dX8_init_12 : decode cX8_init 12 = .ok (.aload_n 0, 1) := by decide +kernel
theorem dX8_init_13 : decode cX8_init 13 = .ok (.sipush 4400, 3) := by decide +kernel
theorem dX8_init_16 : decode cX8_init 16 = .ok (.newarray .int, 2) := by decide +kernel
theorem dX8_init_18 : decode cX8_init 18 = .ok (.putfield 13, 3) := by decide +kernel
theorem dX8_init_21 : decode cX8_init 21 = .ok (.aload_n 0, 1) := by decide +kernel
theorem dX8_init_22 : decode cX8_init 22 = .ok (.bipush 110, 2) := by decide +kernel
theorem dX8_init_24 : decode cX8_init 24 = .ok (.newarray .int, 2) := by decide +kernel
theorem dX8_init_26 : decode cX8_init 26 = .ok (.putfield 16, 3) := by decide +kernel
theorem dX8_init_29 : decode cX8_init 29 = .ok (.aload_n 0, 1) := by decide +kernel
theorem dX8_init_30 : decode cX8_init 30 = .ok (.bipush 66, 2) := by decide +kernel
theorem dX8_init_32 : decode cX8_init 32 = .ok (.newarray .int, 2) := by decide +kernel
theorem dX8_init_34 : decode cX8_init 34 = .ok (.putfield 19, 3) := by decide +kernel
theorem dX8_init_37 : decode cX8_init 37 = .ok (.aload_n 0, 1) := by decide +kernel
theorem dX8_init_38 : decode cX8_init 38 = .ok (.bipush 20, 2) := by decide +kernel
theorem dX8_init_40 : decode cX8_init 40 = .ok (.newarray .int, 2) := by decide +kernel
theorem dX8_init_42 : decode cX8_init 42 = .ok (.putfield 22, 3) := by decide +kernel
theorem dX8_init_45 : decode cX8_init 45 = .ok (.aload_n 0, 1) := by decide +kernel
theorem dX8_init_46 : decode cX8_init 46 = .ok (.bipush 20, 2) := by decide +kernel
theorem dX8_init_48 : decode cX8_init 48 = .ok (.newarray .int, 2) := by decide +kernel
theorem dX8_init_50 : decode cX8_init 50 = .ok (.putfield 25, 3) := by decide +kernel
theorem dX8_init_53 : decode cX8_init 53 = .ok (.aload_n 0, 1) := by decide +kernel
theorem dX8_init_54 : decode cX8_init 54 = .ok (.bipush 120, 2) := by decide +kernel
theorem dX8_init_56 : decode cX8_init 56 = .ok (.newarray .int, 2) := by decide +kernel
theorem dX8_init_58 : decode cX8_init 58 = .ok (.putfield 28, 3) := by decide +kernel
theorem dX8_init_61 : decode cX8_init 61 = .ok (.aload_n 0, 1) := by decide +kernel
theorem dX8_init_62 : decode cX8_init 62 = .ok (.bipush 120, 2) := by decide +kernel
theorem dX8_init_64 : decode cX8_init 64 = .ok (.newarray .boolean, 2) := by decide +kernel
theorem dX8_init_66 : decode cX8_init 66 = .ok (.putfield 31, 3) := by decide +kernel
theorem dX8_init_69 : decode cX8_init 69 = .ok (.aload_n 0, 1) := by decide +kernel
theorem dX8_init_70 : decode cX8_init 70 = .ok (.bipush 20, 2) := by decide +kernel
theorem dX8_init_72 : decode cX8_init 72 = .ok (.newarray .int, 2) := by decide +kernel
theorem dX8_init_74 : decode cX8_init 74 = .ok (.putfield 35, 3) := by decide +kernel
theorem dX8_init_77 : decode cX8_init 77 = .ok (.aload_n 0, 1) := by decide +kernel
theorem dX8_init_78 : decode cX8_init 78 = .ok (.bipush 8, 2) := by decide +kernel
theorem dX8_init_80 : decode cX8_init 80 = .ok (.newarray .int, 2) := by decide +kernel
theorem dX8_init_82 : decode cX8_init 82 = .ok (.putfield 38, 3) := by decide +kernel
theorem dX8_init_85 : decode cX8_init 85 = .ok (.aload_n 0, 1) := by decide +kernel
theorem dX8_init_86 : decode cX8_init 86 = .ok (.bipush 8, 2) := by decide +kernel
theorem dX8_init_88 : decode cX8_init 88 = .ok (.newarray .boolean, 2) := by decide +kernel
theorem dX8_init_90 : decode cX8_init 90 = .ok (.putfield 41, 3) := by decide +kernel
theorem dX8_init_93 : decode cX8_init 93 = .ok (.aload_n 0, 1) := by decide +kernel
theorem dX8_init_94 : decode cX8_init 94 = .ok (.bipush 40, 2) := by decide +kernel
theorem dX8_init_96 : decode cX8_init 96 = .ok (.newarray .int, 2) := by decide +kernel
theorem dX8_init_98 : decode cX8_init 98 = .ok (.putfield 44, 3) := by decide +kernel
theorem dX8_init_101 : decode cX8_init 101 = .ok (.aload_n 0, 1) := by decide +kernel
theorem dX8_init_102 : decode cX8_init 102 = .ok (.bipush 40, 2) := by decide +kernel
theorem dX8_init_104 : decode cX8_init 104 = .ok (.newarray .int, 2) := by decide +kernel
theorem dX8_init_106 : decode cX8_init 106 = .ok (.putfield 47, 3) := by decide +kernel
theorem dX8_init_109 : decode cX8_init 109 = .ok (.aload_n 0, 1) := by decide +kernel
theorem dX8_init_110 : decode cX8_init 110 = .ok (.bipush 40, 2) := by decide +kernel
theorem dX8_init_112 : decode cX8_init 112 = .ok (.newarray .int, 2) := by decide +kernel
theorem dX8_init_114 : decode cX8_init 114 = .ok (.putfield 50, 3) := by decide +kernel
theorem dX8_init_117 : decode cX8_init 117 = .ok (.aload_n 0, 1) := by decide +kernel
theorem dX8_init_118 : decode cX8_init 118 = .ok (.bipush 6, 2) := by decide +kernel
theorem dX8_init_120 : decode cX8_init 120 = .ok (.newarray .int, 2) := by decide +kernel
theorem dX8_init_122 : decode cX8_init 122 = .ok (.putfield 53, 3) := by decide +kernel
theorem dX8_init_125 : decode cX8_init 125 = .ok (.aload_n 0, 1) := by decide +kernel
theorem dX8_init_126 : decode cX8_init 126 = .ok (.sipush 200, 3) := by decide +kernel
theorem dX8_init_129 : decode cX8_init 129 = .ok (.newarray .int, 2) := by decide +kernel
theorem dX8_init_131 : decode cX8_init 131 = .ok (.putfield 56, 3) := by decide +kernel
theorem dX8_init_134 : decode cX8_init 134 = .ok (.aload_n 0, 1) := by decide +kernel
theorem dX8_init_135 : decode cX8_init 135 = .ok (.sipush 200, 3) := by decide +kernel
theorem dX8_init_138 : decode cX8_init 138 = .ok (.newarray .int, 2) := by decide +kernel
theorem dX8_init_140 : decode cX8_init 140 = .ok (.putfield 59, 3) := by decide +kernel
theorem dX8_init_143 : decode cX8_init 143 = .ok (.aload_n 0, 1) := by decide +kernel
theorem dX8_init_144 : decode cX8_init 144 = .ok (.iconst 0, 1) := by decide +kernel
theorem dX8_init_145 : decode cX8_init 145 = .ok (.putfield 62, 3) := by decide +kernel
theorem dX8_init_148 : decode cX8_init 148 = .ok (.return_, 1) := by decide +kernel
theorem dX8_thrown_0 : decode cX8_thrown 0 = .ok (.aload_n 0, 1) := by decide +kernel
theorem dX8_thrown_1 : decode cX8_thrown 1 = .ok (.getfield 66, 3) := by decide +kernel
theorem dX8_thrown_4 : decode cX8_thrown 4 = .ok (.ireturn, 1) := by decide +kernel
theorem dX8_in_0 : decode cX8_in 0 = .ok (.iload_n 0, 1) := by decide +kernel
theorem dX8_in_1 : decode cX8_in 1 = .ok (.iload_n 1, 1) := by decide +kernel
theorem dX8_in_2 : decode cX8_in 2 = .ok (.if_icmp .lt 12, 3) := by decide +kernel
theorem dX8_in_5 : decode cX8_in 5 = .ok (.iload_n 0, 1) := by decide +kernel
theorem dX8_in_6 : decode cX8_in 6 = .ok (.iload_n 2, 1) := by decide +kernel
theorem dX8_in_7 : decode cX8_in 7 = .ok (.if_icmp .gt 7, 3) := by decide +kernel
theorem dX8_in_10 : decode cX8_in 10 = .ok (.iconst 1, 1) := by decide +kernel
theorem dX8_in_11 : decode cX8_in 11 = .ok (.goto 4, 3) := by decide +kernel
theorem dX8_in_14 : decode cX8_in 14 = .ok (.iconst 0, 1) := by decide +kernel
theorem dX8_in_15 : decode cX8_in 15 = .ok (.ireturn, 1) := by decide +kernel
theorem dX8_isField_0 : decode cX8_isField 0 = .ok (.iload_n 0, 1) := by decide +kernel
theorem dX8_isField_1 : decode cX8_isField 1 = .ok (.iconst 0, 1) := by decide +kernel
theorem dX8_isField_2 : decode cX8_isField 2 = .ok (.iconst 5, 1) := by decide +kernel
theorem dX8_isField_3 : decode cX8_isField 3 = .ok (.invokestatic 69, 3) := by decide +kernel
theorem dX8_isField_6 : decode cX8_isField 6 = .ok (.ireturn, 1) := by decide +kernel
theorem dX8_isFormula_0 : decode cX8_isFormula 0 = .ok (.iload_n 0, 1) := by decide +kernel
theorem dX8_isFormula_1 : decode cX8_isFormula 1 = .ok (.iconst 0, 1) := by decide +kernel
theorem dX8_isFormula_2 : decode cX8_isFormula 2 = .ok (.bipush 9, 2) := by decide +kernel
theorem dX8_isFormula_4 : decode cX8_isFormula 4 = .ok (.invokestatic 69, 3) := by decide +kernel
theorem dX8_isFormula_7 : decode cX8_isFormula 7 = .ok (.ireturn, 1) := by decide +kernel
theorem dX8_endFactor_0 : decode cX8_endFactor 0 = .ok (.aload_n 0, 1) := by decide +kernel
theorem dX8_endFactor_1 : decode cX8_endFactor 1 = .ok (.getfield 73, 3) := by decide +kernel
theorem dX8_endFactor_4 : decode cX8_endFactor 4 = .ok (.ifCond .le 32, 3) := by decide +kernel
theorem dX8_endFactor_7 : decode cX8_endFactor 7 = .ok (.aload_n 0, 1) := by decide +kernel
theorem dX8_endFactor_8 : decode cX8_endFactor 8 = .ok (.getfield 38, 3) := by decide +kernel
theorem dX8_endFactor_11 : decode cX8_endFactor 11 = .ok (.aload_n 0, 1) := by decide +kernel
theorem dX8_endFactor_12 : decode cX8_endFactor 12 = .ok (.getfield 73, 3) := by decide +kernel
theorem dX8_endFactor_15 : decode cX8_endFactor 15 = .ok (.iconst 1, 1) := by decide +kernel
theorem dX8_endFactor_16 : decode cX8_endFactor 16 = .ok (.isub, 1) := by decide +kernel
theorem dX8_endFactor_17 : decode cX8_endFactor 17 = .ok (.iaload, 1) := by decide +kernel
theorem dX8_endFactor_18 : decode cX8_endFactor 18 = .ok (.bipush 33, 2) := by decide +kernel
theorem dX8_endFactor_20 : decode cX8_endFactor 20 = .ok (.if_icmp .ne 16, 3) := by decide +kernel
theorem dX8_endFactor_23 : decode cX8_endFactor 23 = .ok (.aload_n 0, 1) := by decide +kernel
theorem dX8_endFactor_24 : decode cX8_endFactor 24 = .ok (.dup, 1) := by decide +kernel
theorem dX8_endFactor_25 : decode cX8_endFactor 25 = .ok (.getfield 73, 3) := by decide +kernel
theorem dX8_endFactor_28 : decode cX8_endFactor 28 = .ok (.iconst 1, 1) := by decide +kernel
theorem dX8_endFactor_29 : decode cX8_endFactor 29 = .ok (.isub, 1) := by decide +kernel
theorem dX8_endFactor_30 : decode cX8_endFactor 30 = .ok (.putfield 73, 3) := by decide +kernel
theorem dX8_endFactor_33 : decode cX8_endFactor 33 = .ok (.goto (-33), 3) := by decide +kernel
theorem dX8_endFactor_36 : decode cX8_endFactor 36 = .ok (.return_, 1) := by decide +kernel
theorem dX8_isDigit_0 : decode cX8_isDigit 0 = .ok (.iload_n 0, 1) := by decide +kernel
theorem dX8_isDigit_1 : decode cX8_isDigit 1 = .ok (.bipush 48, 2) := by decide +kernel
theorem dX8_isDigit_3 : decode cX8_isDigit 3 = .ok (.bipush 57, 2) := by decide +kernel
theorem dX8_isDigit_5 : decode cX8_isDigit 5 = .ok (.invokestatic 69, 3) := by decide +kernel
theorem dX8_isDigit_8 : decode cX8_isDigit 8 = .ok (.ireturn, 1) := by decide +kernel
theorem dX8_isLetter_0 : decode cX8_isLetter 0 = .ok (.iload_n 0, 1) := by decide +kernel
theorem dX8_isLetter_1 : decode cX8_isLetter 1 = .ok (.bipush 97, 2) := by decide +kernel
theorem dX8_isLetter_3 : decode cX8_isLetter 3 = .ok (.bipush 102, 2) := by decide +kernel
theorem dX8_isLetter_5 : decode cX8_isLetter 5 = .ok (.invokestatic 69, 3) := by decide +kernel
theorem dX8_isLetter_8 : decode cX8_isLetter 8 = .ok (.ireturn, 1) := by decide +kernel
theorem dX8_opens_0 : decode cX8_opens 0 = .ok (.iload_n 1, 1) := by decide +kernel
theorem dX8_opens_1 : decode cX8_opens 1 = .ok (.bipush 40, 2) := by decide +kernel
theorem dX8_opens_3 : decode cX8_opens 3 = .ok (.if_icmp .eq 9, 3) := by decide +kernel
theorem dX8_opens_6 : decode cX8_opens 6 = .ok (.iload_n 1, 1) := by decide +kernel
theorem dX8_opens_7 : decode cX8_opens 7 = .ok (.bipush 33, 2) := by decide +kernel
theorem dX8_opens_9 : decode cX8_opens 9 = .ok (.if_icmp .ne 12, 3) := by decide +kernel
theorem dX8_opens_12 : decode cX8_opens 12 = .ok (.aload_n 0, 1) := by decide +kernel
theorem dX8_opens_13 : decode cX8_opens 13 = .ok (.getfield 73, 3) := by decide +kernel
theorem dX8_opens_16 : decode cX8_opens 16 = .ok (.bipush 6, 2) := by decide +kernel
theorem dX8_opens_18 : decode cX8_opens 18 = .ok (.if_icmp .ne 5, 3) := by decide +kernel
theorem dX8_opens_21 : decode cX8_opens 21 = .ok (.iconst 0, 1) := by decide +kernel
theorem dX8_opens_22 : decode cX8_opens 22 = .ok (.ireturn, 1) := by decide +kernel
theorem dX8_opens_23 : decode cX8_opens 23 = .ok (.aload_n 0, 1) := by decide +kernel
theorem dX8_opens_24 : decode cX8_opens 24 = .ok (.getfield 38, 3) := by decide +kernel
theorem dX8_opens_27 : decode cX8_opens 27 = .ok (.aload_n 0, 1) := by decide +kernel
theorem dX8_opens_28 : decode cX8_opens 28 = .ok (.getfield 73, 3) := by decide +kernel
theorem dX8_opens_31 : decode cX8_opens 31 = .ok (.iload_n 1, 1) := by decide +kernel
theorem dX8_opens_32 : decode cX8_opens 32 = .ok (.iastore, 1) := by decide +kernel
theorem dX8_opens_33 : decode cX8_opens 33 = .ok (.aload_n 0, 1) := by decide +kernel
theorem dX8_opens_34 : decode cX8_opens 34 = .ok (.dup, 1) := by decide +kernel
theorem dX8_opens_35 : decode cX8_opens 35 = .ok (.getfield 73, 3) := by decide +kernel
theorem dX8_opens_38 : decode cX8_opens 38 = .ok (.iconst 1, 1) := by decide +kernel
theorem dX8_opens_39 : decode cX8_opens 39 = .ok (.iadd, 1) := by decide +kernel
theorem dX8_opens_40 : decode cX8_opens 40 = .ok (.putfield 73, 3) := by decide +kernel
theorem dX8_opens_43 : decode cX8_opens 43 = .ok (.iload_n 1, 1) := by decide +kernel
theorem dX8_opens_44 : decode cX8_opens 44 = .ok (.bipush 40, 2) := by decide +kernel
theorem dX8_opens_46 : decode cX8_opens 46 = .ok (.if_icmp .ne 23, 3) := by decide +kernel
theorem dX8_opens_49 : decode cX8_opens 49 = .ok (.aload_n 0, 1) := by decide +kernel
theorem dX8_opens_50 : decode cX8_opens 50 = .ok (.dup, 1) := by decide +kernel
theorem dX8_opens_51 : decode cX8_opens 51 = .ok (.getfield 76, 3) := by decide +kernel
theorem dX8_opens_54 : decode cX8_opens 54 = .ok (.iconst 1, 1) := by decide +kernel
theorem dX8_opens_55 : decode cX8_opens 55 = .ok (.iadd, 1) := by decide +kernel
theorem dX8_opens_56 : decode cX8_opens 56 = .ok (.putfield 76, 3) := by decide +kernel
theorem dX8_opens_59 : decode cX8_opens 59 = .ok (.aload_n 0, 1) := by decide +kernel
theorem dX8_opens_60 : decode cX8_opens 60 = .ok (.getfield 41, 3) := by decide +kernel
theorem dX8_opens_63 : decode cX8_opens 63 = .ok (.aload_n 0, 1) := by decide +kernel
theorem dX8_opens_64 : decode cX8_opens 64 = .ok (.getfield 76, 3) := by decide +kernel
theorem dX8_opens_67 : decode cX8_opens 67 = .ok (.iconst 0, 1) := by decide +kernel
theorem dX8_opens_68 : decode cX8_opens 68 = .ok (.bastore, 1) := by decide +kernel
theorem dX8_opens_69 : decode cX8_opens 69 = .ok (.iconst 1, 1) := by decide +kernel
theorem dX8_opens_70 : decode cX8_opens 70 = .ok (.ireturn, 1) := by decide +kernel
theorem dX8_goesOn_0 : decode cX8_goesOn 0 = .ok (.iload_n 1, 1) := by decide +kernel
theorem dX8_goesOn_1 : decode cX8_goesOn 1 = .ok (.bipush 41, 2) := by decide +kernel
theorem dX8_goesOn_3 : decode cX8_goesOn 3 = .ok (.if_icmp .ne 38, 3) := by decide +kernel
theorem dX8_goesOn_6 : decode cX8_goesOn 6 = .ok (.aload_n 0, 1) := by decide +kernel
theorem dX8_goesOn_7 : decode cX8_goesOn 7 = .ok (.getfield 76, 3) := by decide +kernel
theorem dX8_goesOn_10 : decode cX8_goesOn 10 = .ok (.ifCond .ne 5, 3) := by decide +kernel
theorem dX8_goesOn_13 : decode cX8_goesOn 13 = .ok (.iconst 0, 1) := by decide +kernel
theorem dX8_goesOn_14 : decode cX8_goesOn 14 = .ok (.ireturn, 1) := by decide +kernel
theorem dX8_goesOn_15 : decode cX8_goesOn 15 = .ok (.aload_n 0, 1) := by decide +kernel
theorem dX8_goesOn_16 : decode cX8_goesOn 16 = .ok (.dup, 1) := by decide +kernel
theorem dX8_goesOn_17 : decode cX8_goesOn 17 = .ok (.getfield 76, 3) := by decide +kernel
theorem dX8_goesOn_20 : decode cX8_goesOn 20 = .ok (.iconst 1, 1) := by decide +kernel
theorem dX8_goesOn_21 : decode cX8_goesOn 21 = .ok (.isub, 1) := by decide +kernel
theorem dX8_goesOn_22 : decode cX8_goesOn 22 = .ok (.putfield 76, 3) := by decide +kernel
theorem dX8_goesOn_25 : decode cX8_goesOn 25 = .ok (.aload_n 0, 1) := by decide +kernel
theorem dX8_goesOn_26 : decode cX8_goesOn 26 = .ok (.dup, 1) := by decide +kernel
theorem dX8_goesOn_27 : decode cX8_goesOn 27 = .ok (.getfield 73, 3) := by decide +kernel
theorem dX8_goesOn_30 : decode cX8_goesOn 30 = .ok (.iconst 1, 1) := by decide +kernel
theorem dX8_goesOn_31 : decode cX8_goesOn 31 = .ok (.isub, 1) := by decide +kernel
theorem dX8_goesOn_32 : decode cX8_goesOn 32 = .ok (.putfield 73, 3) := by decide +kernel
theorem dX8_goesOn_35 : decode cX8_goesOn 35 = .ok (.aload_n 0, 1) := by decide +kernel
theorem dX8_goesOn_36 : decode cX8_goesOn 36 = .ok (.invokevirtual 79, 3) := by decide +kernel
theorem dX8_goesOn_39 : decode cX8_goesOn 39 = .ok (.iconst 1, 1) := by decide +kernel
theorem dX8_goesOn_40 : decode cX8_goesOn 40 = .ok (.ireturn, 1) := by decide +kernel
theorem dX8_goesOn_41 : decode cX8_goesOn 41 = .ok (.iload_n 1, 1) := by decide +kernel
theorem dX8_goesOn_42 : decode cX8_goesOn 42 = .ok (.bipush 60, 2) := by decide +kernel
theorem dX8_goesOn_44 : decode cX8_goesOn 44 = .ok (.if_icmp .eq 15, 3) := by decide +kernel
theorem dX8_goesOn_47 : decode cX8_goesOn 47 = .ok (.iload_n 1, 1) := by decide +kernel
theorem dX8_goesOn_48 : decode cX8_goesOn 48 = .ok (.bipush 61, 2) := by decide +kernel
theorem dX8_goesOn_50 : decode cX8_goesOn 50 = .ok (.if_icmp .eq 9, 3) := by decide +kernel
theorem dX8_goesOn_53 : decode cX8_goesOn 53 = .ok (.iload_n 1, 1) := by decide +kernel
theorem dX8_goesOn_54 : decode cX8_goesOn 54 = .ok (.bipush 62, 2) := by decide +kernel
theorem dX8_goesOn_56 : decode cX8_goesOn 56 = .ok (.if_icmp .ne 33, 3) := by decide +kernel
theorem dX8_goesOn_59 : decode cX8_goesOn 59 = .ok (.aload_n 0, 1) := by decide +kernel
theorem dX8_goesOn_60 : decode cX8_goesOn 60 = .ok (.getfield 41, 3) := by decide +kernel
theorem dX8_goesOn_63 : decode cX8_goesOn 63 = .ok (.aload_n 0, 1) := by decide +kernel
theorem dX8_goesOn_64 : decode cX8_goesOn 64 = .ok (.getfield 76, 3) := by decide +kernel
theorem dX8_goesOn_67 : decode cX8_goesOn 67 = .ok (.baload, 1) := by decide +kernel
theorem dX8_goesOn_68 : decode cX8_goesOn 68 = .ok (.ifCond .ne 7, 3) := by decide +kernel
theorem dX8_goesOn_71 : decode cX8_goesOn 71 = .ok (.iconst 1, 1) := by decide +kernel
theorem dX8_goesOn_72 : decode cX8_goesOn 72 = .ok (.goto 4, 3) := by decide +kernel
theorem dX8_goesOn_75 : decode cX8_goesOn 75 = .ok (.iconst 0, 1) := by decide +kernel
theorem dX8_goesOn_76 : decode cX8_goesOn 76 = .ok (.istore_n 2, 1) := by decide +kernel
theorem dX8_goesOn_77 : decode cX8_goesOn 77 = .ok (.aload_n 0, 1) := by decide +kernel
theorem dX8_goesOn_78 : decode cX8_goesOn 78 = .ok (.getfield 41, 3) := by decide +kernel
theorem dX8_goesOn_81 : decode cX8_goesOn 81 = .ok (.aload_n 0, 1) := by decide +kernel
theorem dX8_goesOn_82 : decode cX8_goesOn 82 = .ok (.getfield 76, 3) := by decide +kernel
theorem dX8_goesOn_85 : decode cX8_goesOn 85 = .ok (.iconst 1, 1) := by decide +kernel
theorem dX8_goesOn_86 : decode cX8_goesOn 86 = .ok (.bastore, 1) := by decide +kernel
theorem dX8_goesOn_87 : decode cX8_goesOn 87 = .ok (.iload_n 2, 1) := by decide +kernel
theorem dX8_goesOn_88 : decode cX8_goesOn 88 = .ok (.ireturn, 1) := by decide +kernel
theorem dX8_goesOn_89 : decode cX8_goesOn 89 = .ok (.iload_n 1, 1) := by decide +kernel
theorem dX8_goesOn_90 : decode cX8_goesOn 90 = .ok (.bipush 38, 2) := by decide +kernel
theorem dX8_goesOn_92 : decode cX8_goesOn 92 = .ok (.if_icmp .eq 9, 3) := by decide +kernel
theorem dX8_goesOn_95 : decode cX8_goesOn 95 = .ok (.iload_n 1, 1) := by decide +kernel
theorem dX8_goesOn_96 : decode cX8_goesOn 96 = .ok (.bipush 124, 2) := by decide +kernel
theorem dX8_goesOn_98 : decode cX8_goesOn 98 = .ok (.if_icmp .ne 15, 3) := by decide +kernel
theorem dX8_goesOn_101 : decode cX8_goesOn 101 = .ok (.aload_n 0, 1) := by decide +kernel
theorem dX8_goesOn_102 : decode cX8_goesOn 102 = .ok (.getfield 41, 3) := by decide +kernel
theorem dX8_goesOn_105 : decode cX8_goesOn 105 = .ok (.aload_n 0, 1) := by decide +kernel
theorem dX8_goesOn_106 : decode cX8_goesOn 106 = .ok (.getfield 76, 3) := by decide +kernel
theorem dX8_goesOn_109 : decode cX8_goesOn 109 = .ok (.iconst 0, 1) := by decide +kernel
theorem dX8_goesOn_110 : decode cX8_goesOn 110 = .ok (.bastore, 1) := by decide +kernel
theorem dX8_goesOn_111 : decode cX8_goesOn 111 = .ok (.iconst 1, 1) := by decide +kernel
theorem dX8_goesOn_112 : decode cX8_goesOn 112 = .ok (.ireturn, 1) := by decide +kernel
theorem dX8_goesOn_113 : decode cX8_goesOn 113 = .ok (.iload_n 1, 1) := by decide +kernel
theorem dX8_goesOn_114 : decode cX8_goesOn 114 = .ok (.bipush 42, 2) := by decide +kernel
theorem dX8_goesOn_116 : decode cX8_goesOn 116 = .ok (.if_icmp .eq 15, 3) := by decide +kernel
theorem dX8_goesOn_119 : decode cX8_goesOn 119 = .ok (.iload_n 1, 1) := by decide +kernel
theorem dX8_goesOn_120 : decode cX8_goesOn 120 = .ok (.bipush 43, 2) := by decide +kernel
theorem dX8_goesOn_122 : decode cX8_goesOn 122 = .ok (.if_icmp .eq 9, 3) := by decide +kernel
theorem dX8_goesOn_125 : decode cX8_goesOn 125 = .ok (.iload_n 1, 1) := by decide +kernel
theorem dX8_goesOn_126 : decode cX8_goesOn 126 = .ok (.bipush 45, 2) := by decide +kernel
theorem dX8_goesOn_128 : decode cX8_goesOn 128 = .ok (.if_icmp .ne 7, 3) := by decide +kernel
theorem dX8_goesOn_131 : decode cX8_goesOn 131 = .ok (.iconst 1, 1) := by decide +kernel
theorem dX8_goesOn_132 : decode cX8_goesOn 132 = .ok (.goto 4, 3) := by decide +kernel
theorem dX8_goesOn_135 : decode cX8_goesOn 135 = .ok (.iconst 0, 1) := by decide +kernel
theorem dX8_goesOn_136 : decode cX8_goesOn 136 = .ok (.ireturn, 1) := by decide +kernel
theorem dX8_firstError_0 : decode cX8_firstError 0 = .ok (.iconst 1, 1) := by decide +kernel
theorem dX8_firstError_1 : decode cX8_firstError 1 = .ok (.istore_n 1, 1) := by decide +kernel
theorem dX8_firstError_2 : decode cX8_firstError 2 = .ok (.iconst (-1), 1) := by decide +kernel
theorem dX8_firstError_3 : decode cX8_firstError 3 = .ok (.istore_n 2, 1) := by decide +kernel
theorem dX8_firstError_4 : decode cX8_firstError 4 = .ok (.aload_n 0, 1) := by decide +kernel
theorem dX8_firstError_5 : decode cX8_firstError 5 = .ok (.iconst 0, 1) := by decide +kernel
theorem dX8_firstError_6 : decode cX8_firstError 6 = .ok (.putfield 73, 3) := by decide +kernel
theorem dX8_firstError_9 : decode cX8_firstError 9 = .ok (.aload_n 0, 1) := by decide +kernel
theorem dX8_firstError_10 : decode cX8_firstError 10 = .ok (.iconst 0, 1) := by decide +kernel
theorem dX8_firstError_11 : decode cX8_firstError 11 = .ok (.putfield 76, 3) := by decide +kernel
theorem dX8_firstError_14 : decode cX8_firstError 14 = .ok (.aload_n 0, 1) := by decide +kernel
theorem dX8_firstError_15 : decode cX8_firstError 15 = .ok (.getfield 41, 3) := by decide +kernel
theorem dX8_firstError_18 : decode cX8_firstError 18 = .ok (.iconst 0, 1) := by decide +kernel
theorem dX8_firstError_19 : decode cX8_firstError 19 = .ok (.iconst 0, 1) := by decide +kernel
theorem dX8_firstError_20 : decode cX8_firstError 20 = .ok (.bastore, 1) := by decide +kernel
theorem dX8_firstError_21 : decode cX8_firstError 21 = .ok (.iconst 0, 1) := by decide +kernel
theorem dX8_firstError_22 : decode cX8_firstError 22 = .ok (.istore_n 3, 1) := by decide +kernel
theorem dX8_firstError_23 : decode cX8_firstError 23 = .ok (.iload_n 3, 1) := by decide +kernel
theorem dX8_firstError_24 : decode cX8_firstError 24 = .ok (.aload_n 0, 1) := by decide +kernel
theorem dX8_firstError_25 : decode cX8_firstError 25 = .ok (.getfield 62, 3) := by decide +kernel
theorem dX8_firstError_28 : decode cX8_firstError 28 = .ok (.if_icmp .ge 152, 3) := by decide +kernel
theorem dX8_firstError_31 : decode cX8_firstError 31 = .ok (.aload_n 0, 1) := by decide +kernel
theorem dX8_firstError_32 : decode cX8_firstError 32 = .ok (.getfield 7, 3) := by decide +kernel
theorem dX8_firstError_35 : decode cX8_firstError 35 = .ok (.iload_n 3, 1) := by decide +kernel
theorem dX8_firstError_36 : decode cX8_firstError 36 = .ok (.iaload, 1) := by decide +kernel
theorem dX8_firstError_37 : decode cX8_firstError 37 = .ok (.istore 4, 2) := by decide +kernel
theorem dX8_firstError_39 : decode cX8_firstError 39 = .ok (.iload_n 2, 1) := by decide +kernel
theorem dX8_firstError_40 : decode cX8_firstError 40 = .ok (.iconst (-1), 1) := by decide +kernel
theorem dX8_firstError_41 : decode cX8_firstError 41 = .ok (.if_icmp .eq 37, 3) := by decide +kernel
theorem dX8_firstError_44 : decode cX8_firstError 44 = .ok (.iload 4, 2) := by decide +kernel
theorem dX8_firstError_46 : decode cX8_firstError 46 = .ok (.invokestatic 82, 3) := by decide +kernel
theorem dX8_firstError_49 : decode cX8_firstError 49 = .ok (.ifCond .eq 29, 3) := by decide +kernel
theorem dX8_firstError_52 : decode cX8_firstError 52 = .ok (.iload_n 2, 1) := by decide +kernel
theorem dX8_firstError_53 : decode cX8_firstError 53 = .ok (.ifCond .eq 9, 3) := by decide +kernel
theorem dX8_firstError_56 : decode cX8_firstError 56 = .ok (.iload_n 2, 1) := by decide +kernel
theorem dX8_firstError_57 : decode cX8_firstError 57 = .ok (.bipush 99, 2) := by decide +kernel
theorem dX8_firstError_59 : decode cX8_firstError 59 = .ok (.if_icmp .le 5, 3) := by decide +kernel
theorem dX8_firstError_62 : decode cX8_firstError 62 = .ok (.iload_n 3, 1) := by decide +kernel
theorem dX8_firstError_63 : decode cX8_firstError 63 = .ok (.ireturn, 1) := by decide +kernel
theorem dX8_firstError_64 : decode cX8_firstError 64 = .ok (.bipush 10, 2) := by decide +kernel
theorem dX8_firstError_66 : decode cX8_firstError 66 = .ok (.iload_n 2, 1) := by decide +kernel
theorem dX8_firstError_67 : decode cX8_firstError 67 = .ok (.imul, 1) := by decide +kernel
theorem dX8_firstError_68 : decode cX8_firstError 68 = .ok (.iload 4, 2) := by decide +kernel
theorem dX8_firstError_70 : decode cX8_firstError 70 = .ok (.iadd, 1) := by decide +kernel
theorem dX8_firstError_71 : decode cX8_firstError 71 = .ok (.bipush 48, 2) := by decide +kernel
theorem dX8_firstError_73 : decode cX8_firstError 73 = .ok (.isub, 1) := by decide +kernel
theorem dX8_firstError_74 : decode cX8_firstError 74 = .ok (.istore_n 2, 1) := by decide +kernel
theorem dX8_firstError_75 : decode cX8_firstError 75 = .ok (.goto 99, 3) := by decide +kernel
theorem dX8_firstError_78 : decode cX8_firstError 78 = .ok (.iload_n 1, 1) := by decide +kernel
theorem dX8_firstError_79 : decode cX8_firstError 79 = .ok (.ifCond .eq 69, 3) := by decide +kernel
theorem dX8_firstError_82 : decode cX8_firstError 82 = .ok (.iload 4, 2) := by decide +kernel
theorem dX8_firstError_84 : decode cX8_firstError 84 = .ok (.invokestatic 82, 3) := by decide +kernel
theorem dX8_firstError_87 : decode cX8_firstError 87 = .ok (.ifCond .eq 11, 3) := by decide +kernel
theorem dX8_firstError_90 : decode cX8_firstError 90 = .ok (.iload 4, 2) := by decide +kernel
theorem dX8_firstError_92 : decode cX8_firstError 92 = .ok (.bipush 48, 2) := by decide +kernel
theorem dX8_firstError_94 : decode cX8_firstError 94 = .ok (.isub, 1) := by decide +kernel
theorem dX8_firstError_95 : decode cX8_firstError 95 = .ok (.goto 4, 3) := by decide +kernel
theorem dX8_firstError_98 : decode cX8_firstError 98 = .ok (.iconst (-1), 1) := by decide +kernel
theorem dX8_firstError_99 : decode cX8_firstError 99 = .ok (.istore_n 2, 1) := by decide +kernel
theorem dX8_firstError_100 : decode cX8_firstError 100 = .ok (.iload 4, 2) := by decide +kernel
theorem dX8_firstError_102 : decode cX8_firstError 102 = .ok (.invokestatic 82, 3) := by decide +kernel
theorem dX8_firstError_105 : decode cX8_firstError 105 = .ok (.ifCond .ne 15, 3) := by decide +kernel
theorem dX8_firstError_108 : decode cX8_firstError 108 = .ok (.iload 4, 2) := by decide +kernel
theorem dX8_firstError_110 : decode cX8_firstError 110 = .ok (.invokestatic 86, 3) := by decide +kernel
theorem dX8_firstError_113 : decode cX8_firstError 113 = .ok (.ifCond .ne 7, 3) := by decide +kernel
theorem dX8_firstError_116 : decode cX8_firstError 116 = .ok (.iconst 1, 1) := by decide +kernel
theorem dX8_firstError_117 : decode cX8_firstError 117 = .ok (.goto 4, 3) := by decide +kernel
theorem dX8_firstError_120 : decode cX8_firstError 120 = .ok (.iconst 0, 1) := by decide +kernel
theorem dX8_firstError_121 : decode cX8_firstError 121 = .ok (.istore_n 1, 1) := by decide +kernel
theorem dX8_firstError_122 : decode cX8_firstError 122 = .ok (.iload_n 1, 1) := by decide +kernel
theorem dX8_firstError_123 : decode cX8_firstError 123 = .ok (.ifCond .eq 14, 3) := by decide +kernel
theorem dX8_firstError_126 : decode cX8_firstError 126 = .ok (.aload_n 0, 1) := by decide +kernel
theorem dX8_firstError_127 : decode cX8_firstError 127 = .ok (.iload 4, 2) := by decide +kernel
theorem dX8_firstError_129 : decode cX8_firstError 129 = .ok (.invokevirtual 89, 3) := by decide +kernel
theorem dX8_firstError_132 : decode cX8_firstError 132 = .ok (.ifCond .ne 5, 3) := by decide +kernel
theorem dX8_firstError_135 : decode cX8_firstError 135 = .ok (.iload_n 3, 1) := by decide +kernel
theorem dX8_firstError_136 : decode cX8_firstError 136 = .ok (.ireturn, 1) := by decide +kernel
theorem dX8_firstError_137 : decode cX8_firstError 137 = .ok (.iload_n 1, 1) := by decide +kernel
theorem dX8_firstError_138 : decode cX8_firstError 138 = .ok (.ifCond .ne 36, 3) := by decide +kernel
theorem dX8_firstError_141 : decode cX8_firstError 141 = .ok (.aload_n 0, 1) := by decide +kernel
theorem dX8_firstError_142 : decode cX8_firstError 142 = .ok (.invokevirtual 79, 3) := by decide +kernel
theorem dX8_firstError_145 : decode cX8_firstError 145 = .ok (.goto 29, 3) := by decide +kernel
theorem dX8_firstError_148 : decode cX8_firstError 148 = .ok (.iconst (-1), 1) := by decide +kernel
theorem dX8_firstError_149 : decode cX8_firstError 149 = .ok (.istore_n 2, 1) := by decide +kernel
theorem dX8_firstError_150 : decode cX8_firstError 150 = .ok (.aload_n 0, 1) := by decide +kernel
theorem dX8_firstError_151 : decode cX8_firstError 151 = .ok (.iload 4, 2) := by decide +kernel
theorem dX8_firstError_153 : decode cX8_firstError 153 = .ok (.invokevirtual 92, 3) := by decide +kernel
theorem dX8_firstError_156 : decode cX8_firstError 156 = .ok (.ifCond .ne 5, 3) := by decide +kernel
theorem dX8_firstError_159 : decode cX8_firstError 159 = .ok (.iload_n 3, 1) := by decide +kernel
theorem dX8_firstError_160 : decode cX8_firstError 160 = .ok (.ireturn, 1) := by decide +kernel
theorem dX8_firstError_161 : decode cX8_firstError 161 = .ok (.iload 4, 2) := by decide +kernel
theorem dX8_firstError_163 : decode cX8_firstError 163 = .ok (.bipush 41, 2) := by decide +kernel
theorem dX8_firstError_165 : decode cX8_firstError 165 = .ok (.if_icmp .eq 7, 3) := by decide +kernel
theorem dX8_firstError_168 : decode cX8_firstError 168 = .ok (.iconst 1, 1) := by decide +kernel
theorem dX8_firstError_169 : decode cX8_firstError 169 = .ok (.goto 4, 3) := by decide +kernel
theorem dX8_firstError_172 : decode cX8_firstError 172 = .ok (.iconst 0, 1) := by decide +kernel
theorem dX8_firstError_173 : decode cX8_firstError 173 = .ok (.istore_n 1, 1) := by decide +kernel
theorem dX8_firstError_174 : decode cX8_firstError 174 = .ok (.iinc 3 1, 3) := by decide +kernel
theorem dX8_firstError_177 : decode cX8_firstError 177 = .ok (.goto (-154), 3) := by decide +kernel
theorem dX8_firstError_180 : decode cX8_firstError 180 = .ok (.iload_n 1, 1) := by decide +kernel
theorem dX8_firstError_181 : decode cX8_firstError 181 = .ok (.ifCond .ne 10, 3) := by decide +kernel
theorem dX8_firstError_184 : decode cX8_firstError 184 = .ok (.aload_n 0, 1) := by decide +kernel
theorem dX8_firstError_185 : decode cX8_firstError 185 = .ok (.getfield 76, 3) := by decide +kernel
theorem dX8_firstError_188 : decode cX8_firstError 188 = .ok (.ifCond .le 10, 3) := by decide +kernel
theorem dX8_firstError_191 : decode cX8_firstError 191 = .ok (.aload_n 0, 1) := by decide +kernel
theorem dX8_firstError_192 : decode cX8_firstError 192 = .ok (.getfield 62, 3) := by decide +kernel
theorem dX8_firstError_195 : decode cX8_firstError 195 = .ok (.goto 4, 3) := by decide +kernel
theorem dX8_firstError_198 : decode cX8_firstError 198 = .ok (.iconst (-1), 1) := by decide +kernel
theorem dX8_firstError_199 : decode cX8_firstError 199 = .ok (.ireturn, 1) := by decide +kernel
theorem dX8_type_0 : decode cX8_type 0 = .ok (.aload_n 0, 1) := by decide +kernel
theorem dX8_type_1 : decode cX8_type 1 = .ok (.aload_n 0, 1) := by decide +kernel
theorem dX8_type_2 : decode cX8_type 2 = .ok (.getfield 62, 3) := by decide +kernel
theorem dX8_type_5 : decode cX8_type 5 = .ok (.bipush 40, 2) := by decide +kernel
theorem dX8_type_7 : decode cX8_type 7 = .ok (.if_icmp .ne 7, 3) := by decide +kernel
theorem dX8_type_10 : decode cX8_type 10 = .ok (.iconst 1, 1) := by decide +kernel
theorem dX8_type_11 : decode cX8_type 11 = .ok (.goto 4, 3) := by decide +kernel
theorem dX8_type_14 : decode cX8_type 14 = .ok (.iconst 0, 1) := by decide +kernel
theorem dX8_type_15 : decode cX8_type 15 = .ok (.putfield 66, 3) := by decide +kernel
theorem dX8_type_18 : decode cX8_type 18 = .ok (.aload_n 0, 1) := by decide +kernel
theorem dX8_type_19 : decode cX8_type 19 = .ok (.getfield 66, 3) := by decide +kernel
theorem dX8_type_22 : decode cX8_type 22 = .ok (.ifCond .le 5, 3) := by decide +kernel
theorem dX8_type_25 : decode cX8_type 25 = .ok (.iconst 0, 1) := by decide +kernel
theorem dX8_type_26 : decode cX8_type 26 = .ok (.ireturn, 1) := by decide +kernel
theorem dX8_type_27 : decode cX8_type 27 = .ok (.aload_n 0, 1) := by decide +kernel
theorem dX8_type_28 : decode cX8_type 28 = .ok (.getfield 7, 3) := by decide +kernel
theorem dX8_type_31 : decode cX8_type 31 = .ok (.aload_n 0, 1) := by decide +kernel
theorem dX8_type_32 : decode cX8_type 32 = .ok (.getfield 62, 3) := by decide +kernel
theorem dX8_type_35 : decode cX8_type 35 = .ok (.iload_n 1, 1) := by decide +kernel
theorem dX8_type_36 : decode cX8_type 36 = .ok (.iastore, 1) := by decide +kernel
theorem dX8_type_37 : decode cX8_type 37 = .ok (.aload_n 0, 1) := by decide +kernel
theorem dX8_type_38 : decode cX8_type 38 = .ok (.dup, 1) := by decide +kernel
theorem dX8_type_39 : decode cX8_type 39 = .ok (.getfield 62, 3) := by decide +kernel
theorem dX8_type_42 : decode cX8_type 42 = .ok (.iconst 1, 1) := by decide +kernel
theorem dX8_type_43 : decode cX8_type 43 = .ok (.iadd, 1) := by decide +kernel
theorem dX8_type_44 : decode cX8_type 44 = .ok (.putfield 62, 3) := by decide +kernel
theorem dX8_type_47 : decode cX8_type 47 = .ok (.aload_n 0, 1) := by decide +kernel
theorem dX8_type_48 : decode cX8_type 48 = .ok (.getfield 62, 3) := by decide +kernel
theorem dX8_type_51 : decode cX8_type 51 = .ok (.ireturn, 1) := by decide +kernel
theorem dX8_clear_0 : decode cX8_clear 0 = .ok (.aload_n 0, 1) := by decide +kernel
theorem dX8_clear_1 : decode cX8_clear 1 = .ok (.iconst 0, 1) := by decide +kernel
theorem dX8_clear_2 : decode cX8_clear 2 = .ok (.putfield 66, 3) := by decide +kernel
theorem dX8_clear_5 : decode cX8_clear 5 = .ok (.aload_n 0, 1) := by decide +kernel
theorem dX8_clear_6 : decode cX8_clear 6 = .ok (.getfield 62, 3) := by decide +kernel
theorem dX8_clear_9 : decode cX8_clear 9 = .ok (.istore_n 1, 1) := by decide +kernel
theorem dX8_clear_10 : decode cX8_clear 10 = .ok (.aload_n 0, 1) := by decide +kernel
theorem dX8_clear_11 : decode cX8_clear 11 = .ok (.iconst 0, 1) := by decide +kernel
theorem dX8_clear_12 : decode cX8_clear 12 = .ok (.putfield 62, 3) := by decide +kernel
theorem dX8_clear_15 : decode cX8_clear 15 = .ok (.iload_n 1, 1) := by decide +kernel
theorem dX8_clear_16 : decode cX8_clear 16 = .ok (.ireturn, 1) := by decide +kernel
theorem dX8_error_0 : decode cX8_error 0 = .ok (.aload_n 0, 1) := by decide +kernel
theorem dX8_error_1 : decode cX8_error 1 = .ok (.iconst 0, 1) := by decide +kernel
theorem dX8_error_2 : decode cX8_error 2 = .ok (.putfield 66, 3) := by decide +kernel
theorem dX8_error_5 : decode cX8_error 5 = .ok (.aload_n 0, 1) := by decide +kernel
theorem dX8_error_6 : decode cX8_error 6 = .ok (.invokevirtual 95, 3) := by decide +kernel
theorem dX8_error_9 : decode cX8_error 9 = .ok (.ireturn, 1) := by decide +kernel
theorem dX8_rank_0 : decode cX8_rank 0 = .ok (.iload_n 0, 1) := by decide +kernel
theorem dX8_rank_1 : decode cX8_rank 1 = .ok (.bipush 42, 2) := by decide +kernel
theorem dX8_rank_3 : decode cX8_rank 3 = .ok (.if_icmp .ne 7, 3) := by decide +kernel
theorem dX8_rank_6 : decode cX8_rank 6 = .ok (.iconst 5, 1) := by decide +kernel
theorem dX8_rank_7 : decode cX8_rank 7 = .ok (.goto 62, 3) := by decide +kernel
theorem dX8_rank_10 : decode cX8_rank 10 = .ok (.iload_n 0, 1) := by decide +kernel
theorem dX8_rank_11 : decode cX8_rank 11 = .ok (.bipush 43, 2) := by decide +kernel
theorem dX8_rank_13 : decode cX8_rank 13 = .ok (.if_icmp .eq 9, 3) := by decide +kernel
theorem dX8_rank_16 : decode cX8_rank 16 = .ok (.iload_n 0, 1) := by decide +kernel
theorem dX8_rank_17 : decode cX8_rank 17 = .ok (.bipush 45, 2) := by decide +kernel
theorem dX8_rank_19 : decode cX8_rank 19 = .ok (.if_icmp .ne 7, 3) := by decide +kernel
theorem dX8_rank_22 : decode cX8_rank 22 = .ok (.iconst 4, 1) := by decide +kernel
theorem dX8_rank_23 : decode cX8_rank 23 = .ok (.goto 46, 3) := by decide +kernel
theorem dX8_rank_26 : decode cX8_rank 26 = .ok (.iload_n 0, 1) := by decide +kernel
theorem dX8_rank_27 : decode cX8_rank 27 = .ok (.bipush 60, 2) := by decide +kernel
theorem dX8_rank_29 : decode cX8_rank 29 = .ok (.if_icmp .eq 15, 3) := by decide +kernel
theorem dX8_rank_32 : decode cX8_rank 32 = .ok (.iload_n 0, 1) := by decide +kernel
theorem dX8_rank_33 : decode cX8_rank 33 = .ok (.bipush 61, 2) := by decide +kernel
theorem dX8_rank_35 : decode cX8_rank 35 = .ok (.if_icmp .eq 9, 3) := by decide +kernel
theorem dX8_rank_38 : decode cX8_rank 38 = .ok (.iload_n 0, 1) := by decide +kernel
theorem dX8_rank_39 : decode cX8_rank 39 = .ok (.bipush 62, 2) := by decide +kernel
theorem dX8_rank_41 : decode cX8_rank 41 = .ok (.if_icmp .ne 7, 3) := by decide +kernel
theorem dX8_rank_44 : decode cX8_rank 44 = .ok (.iconst 3, 1) := by decide +kernel
theorem dX8_rank_45 : decode cX8_rank 45 = .ok (.goto 24, 3) := by decide +kernel
theorem dX8_rank_48 : decode cX8_rank 48 = .ok (.iload_n 0, 1) := by decide +kernel
theorem dX8_rank_49 : decode cX8_rank 49 = .ok (.bipush 38, 2) := by decide +kernel
theorem dX8_rank_51 : decode cX8_rank 51 = .ok (.if_icmp .ne 7, 3) := by decide +kernel
theorem dX8_rank_54 : decode cX8_rank 54 = .ok (.iconst 2, 1) := by decide +kernel
theorem dX8_rank_55 : decode cX8_rank 55 = .ok (.goto 14, 3) := by decide +kernel
theorem dX8_rank_58 : decode cX8_rank 58 = .ok (.iload_n 0, 1) := by decide +kernel
theorem dX8_rank_59 : decode cX8_rank 59 = .ok (.bipush 124, 2) := by decide +kernel
theorem dX8_rank_61 : decode cX8_rank 61 = .ok (.if_icmp .ne 7, 3) := by decide +kernel
theorem dX8_rank_64 : decode cX8_rank 64 = .ok (.iconst 1, 1) := by decide +kernel
theorem dX8_rank_65 : decode cX8_rank 65 = .ok (.goto 4, 3) := by decide +kernel
theorem dX8_rank_68 : decode cX8_rank 68 = .ok (.iconst 0, 1) := by decide +kernel
theorem dX8_rank_69 : decode cX8_rank 69 = .ok (.ireturn, 1) := by decide +kernel
theorem dX8_lay_0 : decode cX8_lay 0 = .ok (.aload_n 0, 1) := by decide +kernel
theorem dX8_lay_1 : decode cX8_lay 1 = .ok (.getfield 44, 3) := by decide +kernel
theorem dX8_lay_4 : decode cX8_lay 4 = .ok (.aload_n 0, 1) := by decide +kernel
theorem dX8_lay_5 : decode cX8_lay 5 = .ok (.getfield 99, 3) := by decide +kernel
theorem dX8_lay_8 : decode cX8_lay 8 = .ok (.iload_n 1, 1) := by decide +kernel
theorem dX8_lay_9 : decode cX8_lay 9 = .ok (.iastore, 1) := by decide +kernel
theorem dX8_lay_10 : decode cX8_lay 10 = .ok (.aload_n 0, 1) := by decide +kernel
theorem dX8_lay_11 : decode cX8_lay 11 = .ok (.dup, 1) := by decide +kernel
theorem dX8_lay_12 : decode cX8_lay 12 = .ok (.getfield 99, 3) := by decide +kernel
theorem dX8_lay_15 : decode cX8_lay 15 = .ok (.iconst 1, 1) := by decide +kernel
theorem dX8_lay_16 : decode cX8_lay 16 = .ok (.iadd, 1) := by decide +kernel
theorem dX8_lay_17 : decode cX8_lay 17 = .ok (.putfield 99, 3) := by decide +kernel
theorem dX8_lay_20 : decode cX8_lay 20 = .ok (.return_, 1) := by decide +kernel
theorem dX8_layBangs_0 : decode cX8_layBangs 0 = .ok (.aload_n 0, 1) := by decide +kernel
theorem dX8_layBangs_1 : decode cX8_layBangs 1 = .ok (.getfield 102, 3) := by decide +kernel
theorem dX8_layBangs_4 : decode cX8_layBangs 4 = .ok (.ifCond .le 39, 3) := by decide +kernel
theorem dX8_layBangs_7 : decode cX8_layBangs 7 = .ok (.aload_n 0, 1) := by decide +kernel
theorem dX8_layBangs_8 : decode cX8_layBangs 8 = .ok (.getfield 47, 3) := by decide +kernel
theorem dX8_layBangs_11 : decode cX8_layBangs 11 = .ok (.aload_n 0, 1) := by decide +kernel
theorem dX8_layBangs_12 : decode cX8_layBangs 12 = .ok (.getfield 102, 3) := by decide +kernel
theorem dX8_layBangs_15 : decode cX8_layBangs 15 = .ok (.iconst 1, 1) := by decide +kernel
theorem dX8_layBangs_16 : decode cX8_layBangs 16 = .ok (.isub, 1) := by decide +kernel
theorem dX8_layBangs_17 : decode cX8_layBangs 17 = .ok (.iaload, 1) := by decide +kernel
theorem dX8_layBangs_18 : decode cX8_layBangs 18 = .ok (.bipush 33, 2) := by decide +kernel
theorem dX8_layBangs_20 : decode cX8_layBangs 20 = .ok (.if_icmp .ne 23, 3) := by decide +kernel
theorem dX8_layBangs_23 : decode cX8_layBangs 23 = .ok (.aload_n 0, 1) := by decide +kernel
theorem dX8_layBangs_24 : decode cX8_layBangs 24 = .ok (.dup, 1) := by decide +kernel
theorem dX8_layBangs_25 : decode cX8_layBangs 25 = .ok (.getfield 102, 3) := by decide +kernel
theorem dX8_layBangs_28 : decode cX8_layBangs 28 = .ok (.iconst 1, 1) := by decide +kernel
theorem dX8_layBangs_29 : decode cX8_layBangs 29 = .ok (.isub, 1) := by decide +kernel
theorem dX8_layBangs_30 : decode cX8_layBangs 30 = .ok (.putfield 102, 3) := by decide +kernel
theorem dX8_layBangs_33 : decode cX8_layBangs 33 = .ok (.aload_n 0, 1) := by decide +kernel
theorem dX8_layBangs_34 : decode cX8_layBangs 34 = .ok (.sipush 2033, 3) := by decide +kernel
theorem dX8_layBangs_37 : decode cX8_layBangs 37 = .ok (.invokevirtual 105, 3) := by decide +kernel
theorem dX8_layBangs_40 : decode cX8_layBangs 40 = .ok (.goto (-40), 3) := by decide +kernel
theorem dX8_layBangs_43 : decode cX8_layBangs 43 = .ok (.return_, 1) := by decide +kernel
theorem dX8_laySigns_0 : decode cX8_laySigns 0 = .ok (.aload_n 0, 1) := by decide +kernel
theorem dX8_laySigns_1 : decode cX8_laySigns 1 = .ok (.getfield 102, 3) := by decide +kernel
theorem dX8_laySigns_4 : decode cX8_laySigns 4 = .ok (.ifCond .le 67, 3) := by decide +kernel
theorem dX8_laySigns_7 : decode cX8_laySigns 7 = .ok (.aload_n 0, 1) := by decide +kernel
theorem dX8_laySigns_8 : decode cX8_laySigns 8 = .ok (.getfield 47, 3) := by decide +kernel
theorem dX8_laySigns_11 : decode cX8_laySigns 11 = .ok (.aload_n 0, 1) := by decide +kernel
theorem dX8_laySigns_12 : decode cX8_laySigns 12 = .ok (.getfield 102, 3) := by decide +kernel
theorem dX8_laySigns_15 : decode cX8_laySigns 15 = .ok (.iconst 1, 1) := by decide +kernel
theorem dX8_laySigns_16 : decode cX8_laySigns 16 = .ok (.isub, 1) := by decide +kernel
theorem dX8_laySigns_17 : decode cX8_laySigns 17 = .ok (.iaload, 1) := by decide +kernel
theorem dX8_laySigns_18 : decode cX8_laySigns 18 = .ok (.bipush 40, 2) := by decide +kernel
theorem dX8_laySigns_20 : decode cX8_laySigns 20 = .ok (.if_icmp .eq 51, 3) := by decide +kernel
theorem dX8_laySigns_23 : decode cX8_laySigns 23 = .ok (.aload_n 0, 1) := by decide +kernel
theorem dX8_laySigns_24 : decode cX8_laySigns 24 = .ok (.getfield 47, 3) := by decide +kernel
theorem dX8_laySigns_27 : decode cX8_laySigns 27 = .ok (.aload_n 0, 1) := by decide +kernel
theorem dX8_laySigns_28 : decode cX8_laySigns 28 = .ok (.getfield 102, 3) := by decide +kernel
theorem dX8_laySigns_31 : decode cX8_laySigns 31 = .ok (.iconst 1, 1) := by decide +kernel
theorem dX8_laySigns_32 : decode cX8_laySigns 32 = .ok (.isub, 1) := by decide +kernel
theorem dX8_laySigns_33 : decode cX8_laySigns 33 = .ok (.iaload, 1) := by decide +kernel
theorem dX8_laySigns_34 : decode cX8_laySigns 34 = .ok (.invokestatic 109, 3) := by decide +kernel
theorem dX8_laySigns_37 : decode cX8_laySigns 37 = .ok (.iload_n 1, 1) := by decide +kernel
theorem dX8_laySigns_38 : decode cX8_laySigns 38 = .ok (.if_icmp .lt 33, 3) := by decide +kernel
theorem dX8_laySigns_41 : decode cX8_laySigns 41 = .ok (.aload_n 0, 1) := by decide +kernel
theorem dX8_laySigns_42 : decode cX8_laySigns 42 = .ok (.dup, 1) := by decide +kernel
theorem dX8_laySigns_43 : decode cX8_laySigns 43 = .ok (.getfield 102, 3) := by decide +kernel
theorem dX8_laySigns_46 : decode cX8_laySigns 46 = .ok (.iconst 1, 1) := by decide +kernel
theorem dX8_laySigns_47 : decode cX8_laySigns 47 = .ok (.isub, 1) := by decide +kernel
theorem dX8_laySigns_48 : decode cX8_laySigns 48 = .ok (.putfield 102, 3) := by decide +kernel
theorem dX8_laySigns_51 : decode cX8_laySigns 51 = .ok (.aload_n 0, 1) := by decide +kernel
theorem dX8_laySigns_52 : decode cX8_laySigns 52 = .ok (.sipush 2000, 3) := by decide +kernel
theorem dX8_laySigns_55 : decode cX8_laySigns 55 = .ok (.aload_n 0, 1) := by decide +kernel
theorem dX8_laySigns_56 : decode cX8_laySigns 56 = .ok (.getfield 47, 3) := by decide +kernel
theorem dX8_laySigns_59 : decode cX8_laySigns 59 = .ok (.aload_n 0, 1) := by decide +kernel
theorem dX8_laySigns_60 : decode cX8_laySigns 60 = .ok (.getfield 102, 3) := by decide +kernel
theorem dX8_laySigns_63 : decode cX8_laySigns 63 = .ok (.iaload, 1) := by decide +kernel
theorem dX8_laySigns_64 : decode cX8_laySigns 64 = .ok (.iadd, 1) := by decide +kernel
theorem dX8_laySigns_65 : decode cX8_laySigns 65 = .ok (.invokevirtual 105, 3) := by decide +kernel
theorem dX8_laySigns_68 : decode cX8_laySigns 68 = .ok (.goto (-68), 3) := by decide +kernel
theorem dX8_laySigns_71 : decode cX8_laySigns 71 = .ok (.return_, 1) := by decide +kernel
theorem dX8_layRow_0 : decode cX8_layRow 0 = .ok (.aload_n 0, 1) := by decide +kernel
theorem dX8_layRow_1 : decode cX8_layRow 1 = .ok (.iconst 0, 1) := by decide +kernel
theorem dX8_layRow_2 : decode cX8_layRow 2 = .ok (.putfield 99, 3) := by decide +kernel
theorem dX8_layRow_5 : decode cX8_layRow 5 = .ok (.aload_n 0, 1) := by decide +kernel
theorem dX8_layRow_6 : decode cX8_layRow 6 = .ok (.iconst 0, 1) := by decide +kernel
theorem dX8_layRow_7 : decode cX8_layRow 7 = .ok (.putfield 102, 3) := by decide +kernel
theorem dX8_layRow_10 : decode cX8_layRow 10 = .ok (.iconst 0, 1) := by decide +kernel
theorem dX8_layRow_11 : decode cX8_layRow 11 = .ok (.istore_n 1, 1) := by decide +kernel
theorem dX8_layRow_12 : decode cX8_layRow 12 = .ok (.iload_n 1, 1) := by decide +kernel
theorem dX8_layRow_13 : decode cX8_layRow 13 = .ok (.aload_n 0, 1) := by decide +kernel
theorem dX8_layRow_14 : decode cX8_layRow 14 = .ok (.getfield 62, 3) := by decide +kernel
theorem dX8_layRow_17 : decode cX8_layRow 17 = .ok (.if_icmp .ge 170, 3) := by decide +kernel
theorem dX8_layRow_20 : decode cX8_layRow 20 = .ok (.aload_n 0, 1) := by decide +kernel
theorem dX8_layRow_21 : decode cX8_layRow 21 = .ok (.getfield 7, 3) := by decide +kernel
theorem dX8_layRow_24 : decode cX8_layRow 24 = .ok (.iload_n 1, 1) := by decide +kernel
theorem dX8_layRow_25 : decode cX8_layRow 25 = .ok (.iaload, 1) := by decide +kernel
theorem dX8_layRow_26 : decode cX8_layRow 26 = .ok (.istore_n 2, 1) := by decide +kernel
theorem dX8_layRow_27 : decode cX8_layRow 27 = .ok (.iinc 1 1, 3) := by decide +kernel
theorem dX8_layRow_30 : decode cX8_layRow 30 = .ok (.iload_n 2, 1) := by decide +kernel
theorem dX8_layRow_31 : decode cX8_layRow 31 = .ok (.invokestatic 82, 3) := by decide +kernel
theorem dX8_layRow_34 : decode cX8_layRow 34 = .ok (.ifCond .eq 61, 3) := by decide +kernel
theorem dX8_layRow_37 : decode cX8_layRow 37 = .ok (.iload_n 2, 1) := by decide +kernel
theorem dX8_layRow_38 : decode cX8_layRow 38 = .ok (.bipush 48, 2) := by decide +kernel
theorem dX8_layRow_40 : decode cX8_layRow 40 = .ok (.isub, 1) := by decide +kernel
theorem dX8_layRow_41 : decode cX8_layRow 41 = .ok (.istore_n 3, 1) := by decide +kernel
theorem dX8_layRow_42 : decode cX8_layRow 42 = .ok (.iload_n 1, 1) := by decide +kernel
theorem dX8_layRow_43 : decode cX8_layRow 43 = .ok (.aload_n 0, 1) := by decide +kernel
theorem dX8_layRow_44 : decode cX8_layRow 44 = .ok (.getfield 62, 3) := by decide +kernel
theorem dX8_layRow_47 : decode cX8_layRow 47 = .ok (.if_icmp .ge 36, 3) := by decide +kernel
theorem dX8_layRow_50 : decode cX8_layRow 50 = .ok (.aload_n 0, 1) := by decide +kernel
theorem dX8_layRow_51 : decode cX8_layRow 51 = .ok (.getfield 7, 3) := by decide +kernel
theorem dX8_layRow_54 : decode cX8_layRow 54 = .ok (.iload_n 1, 1) := by decide +kernel
theorem dX8_layRow_55 : decode cX8_layRow 55 = .ok (.iaload, 1) := by decide +kernel
theorem dX8_layRow_56 : decode cX8_layRow 56 = .ok (.invokestatic 82, 3) := by decide +kernel
theorem dX8_layRow_59 : decode cX8_layRow 59 = .ok (.ifCond .eq 24, 3) := by decide +kernel
theorem dX8_layRow_62 : decode cX8_layRow 62 = .ok (.bipush 10, 2) := by decide +kernel
theorem dX8_layRow_64 : decode cX8_layRow 64 = .ok (.iload_n 3, 1) := by decide +kernel
theorem dX8_layRow_65 : decode cX8_layRow 65 = .ok (.imul, 1) := by decide +kernel
theorem dX8_layRow_66 : decode cX8_layRow 66 = .ok (.aload_n 0, 1) := by decide +kernel
theorem dX8_layRow_67 : decode cX8_layRow 67 = .ok (.getfield 7, 3) := by decide +kernel
theorem dX8_layRow_70 : decode cX8_layRow 70 = .ok (.iload_n 1, 1) := by decide +kernel
theorem dX8_layRow_71 : decode cX8_layRow 71 = .ok (.iaload, 1) := by decide +kernel
theorem dX8_layRow_72 : decode cX8_layRow 72 = .ok (.iadd, 1) := by decide +kernel
theorem dX8_layRow_73 : decode cX8_layRow 73 = .ok (.bipush 48, 2) := by decide +kernel
theorem dX8_layRow_75 : decode cX8_layRow 75 = .ok (.isub, 1) := by decide +kernel
theorem dX8_layRow_76 : decode cX8_layRow 76 = .ok (.istore_n 3, 1) := by decide +kernel
theorem dX8_layRow_77 : decode cX8_layRow 77 = .ok (.iinc 1 1, 3) := by decide +kernel
theorem dX8_layRow_80 : decode cX8_layRow 80 = .ok (.goto (-38), 3) := by decide +kernel
theorem dX8_layRow_83 : decode cX8_layRow 83 = .ok (.aload_n 0, 1) := by decide +kernel
theorem dX8_layRow_84 : decode cX8_layRow 84 = .ok (.iload_n 3, 1) := by decide +kernel
theorem dX8_layRow_85 : decode cX8_layRow 85 = .ok (.invokevirtual 105, 3) := by decide +kernel
theorem dX8_layRow_88 : decode cX8_layRow 88 = .ok (.aload_n 0, 1) := by decide +kernel
theorem dX8_layRow_89 : decode cX8_layRow 89 = .ok (.invokevirtual 113, 3) := by decide +kernel
theorem dX8_layRow_92 : decode cX8_layRow 92 = .ok (.goto 92, 3) := by decide +kernel
theorem dX8_layRow_95 : decode cX8_layRow 95 = .ok (.iload_n 2, 1) := by decide +kernel
theorem dX8_layRow_96 : decode cX8_layRow 96 = .ok (.invokestatic 86, 3) := by decide +kernel
theorem dX8_layRow_99 : decode cX8_layRow 99 = .ok (.ifCond .eq 22, 3) := by decide +kernel
theorem dX8_layRow_102 : decode cX8_layRow 102 = .ok (.aload_n 0, 1) := by decide +kernel
theorem dX8_layRow_103 : decode cX8_layRow 103 = .ok (.sipush 1000, 3) := by decide +kernel
theorem dX8_layRow_106 : decode cX8_layRow 106 = .ok (.iload_n 2, 1) := by decide +kernel
theorem dX8_layRow_107 : decode cX8_layRow 107 = .ok (.iadd, 1) := by decide +kernel
theorem dX8_layRow_108 : decode cX8_layRow 108 = .ok (.bipush 97, 2) := by decide +kernel
theorem dX8_layRow_110 : decode cX8_layRow 110 = .ok (.isub, 1) := by decide +kernel
theorem dX8_layRow_111 : decode cX8_layRow 111 = .ok (.invokevirtual 105, 3) := by decide +kernel
theorem dX8_layRow_114 : decode cX8_layRow 114 = .ok (.aload_n 0, 1) := by decide +kernel
theorem dX8_layRow_115 : decode cX8_layRow 115 = .ok (.invokevirtual 113, 3) := by decide +kernel
theorem dX8_layRow_118 : decode cX8_layRow 118 = .ok (.goto 66, 3) := by decide +kernel
theorem dX8_layRow_121 : decode cX8_layRow 121 = .ok (.iload_n 2, 1) := by decide +kernel
theorem dX8_layRow_122 : decode cX8_layRow 122 = .ok (.bipush 41, 2) := by decide +kernel
theorem dX8_layRow_124 : decode cX8_layRow 124 = .ok (.if_icmp .ne 25, 3) := by decide +kernel
theorem dX8_layRow_127 : decode cX8_layRow 127 = .ok (.aload_n 0, 1) := by decide +kernel
theorem dX8_layRow_128 : decode cX8_layRow 128 = .ok (.iconst 0, 1) := by decide +kernel
theorem dX8_layRow_129 : decode cX8_layRow 129 = .ok (.invokevirtual 116, 3) := by decide +kernel
theorem dX8_layRow_132 : decode cX8_layRow 132 = .ok (.aload_n 0, 1) := by decide +kernel
theorem dX8_layRow_133 : decode cX8_layRow 133 = .ok (.dup, 1) := by decide +kernel
theorem dX8_layRow_134 : decode cX8_layRow 134 = .ok (.getfield 102, 3) := by decide +kernel
theorem dX8_layRow_137 : decode cX8_layRow 137 = .ok (.iconst 1, 1) := by decide +kernel
theorem dX8_layRow_138 : decode cX8_layRow 138 = .ok (.isub, 1) := by decide +kernel
theorem dX8_layRow_139 : decode cX8_layRow 139 = .ok (.putfield 102, 3) := by decide +kernel
theorem dX8_layRow_142 : decode cX8_layRow 142 = .ok (.aload_n 0, 1) := by decide +kernel
theorem dX8_layRow_143 : decode cX8_layRow 143 = .ok (.invokevirtual 113, 3) := by decide +kernel
theorem dX8_layRow_146 : decode cX8_layRow 146 = .ok (.goto 38, 3) := by decide +kernel
theorem dX8_layRow_149 : decode cX8_layRow 149 = .ok (.iload_n 2, 1) := by decide +kernel
theorem dX8_layRow_150 : decode cX8_layRow 150 = .ok (.invokestatic 109, 3) := by decide +kernel
theorem dX8_layRow_153 : decode cX8_layRow 153 = .ok (.ifCond .le 11, 3) := by decide +kernel
theorem dX8_layRow_156 : decode cX8_layRow 156 = .ok (.aload_n 0, 1) := by decide +kernel
theorem dX8_layRow_157 : decode cX8_layRow 157 = .ok (.iload_n 2, 1) := by decide +kernel
theorem dX8_layRow_158 : decode cX8_layRow 158 = .ok (.invokestatic 109, 3) := by decide +kernel
theorem dX8_layRow_161 : decode cX8_layRow 161 = .ok (.invokevirtual 116, 3) := by decide +kernel
theorem dX8_layRow_164 : decode cX8_layRow 164 = .ok (.aload_n 0, 1) := by decide +kernel
theorem dX8_layRow_165 : decode cX8_layRow 165 = .ok (.getfield 47, 3) := by decide +kernel
theorem dX8_layRow_168 : decode cX8_layRow 168 = .ok (.aload_n 0, 1) := by decide +kernel
theorem dX8_layRow_169 : decode cX8_layRow 169 = .ok (.getfield 102, 3) := by decide +kernel
theorem dX8_layRow_172 : decode cX8_layRow 172 = .ok (.iload_n 2, 1) := by decide +kernel
theorem dX8_layRow_173 : decode cX8_layRow 173 = .ok (.iastore, 1) := by decide +kernel
theorem dX8_layRow_174 : decode cX8_layRow 174 = .ok (.aload_n 0, 1) := by decide +kernel
theorem dX8_layRow_175 : decode cX8_layRow 175 = .ok (.dup, 1) := by decide +kernel
theorem dX8_layRow_176 : decode cX8_layRow 176 = .ok (.getfield 102, 3) := by decide +kernel
theorem dX8_layRow_179 : decode cX8_layRow 179 = .ok (.iconst 1, 1) := by decide +kernel
theorem dX8_layRow_180 : decode cX8_layRow 180 = .ok (.iadd, 1) := by decide +kernel
theorem dX8_layRow_181 : decode cX8_layRow 181 = .ok (.putfield 102, 3) := by decide +kernel
theorem dX8_layRow_184 : decode cX8_layRow 184 = .ok (.goto (-172), 3) := by decide +kernel
theorem dX8_layRow_187 : decode cX8_layRow 187 = .ok (.aload_n 0, 1) := by decide +kernel
theorem dX8_layRow_188 : decode cX8_layRow 188 = .ok (.iconst 0, 1) := by decide +kernel
theorem dX8_layRow_189 : decode cX8_layRow 189 = .ok (.invokevirtual 116, 3) := by decide +kernel
theorem dX8_layRow_192 : decode cX8_layRow 192 = .ok (.return_, 1) := by decide +kernel
theorem dX8_typeFor_0 : decode cX8_typeFor 0 = .ok (.iload_n 0, 1) := by decide +kernel
theorem dX8_typeFor_1 : decode cX8_typeFor 1 = .ok (.bipush 61, 2) := by decide +kernel
theorem dX8_typeFor_3 : decode cX8_typeFor 3 = .ok (.if_icmp .ne 49, 3) := by decide +kernel
theorem dX8_typeFor_6 : decode cX8_typeFor 6 = .ok (.iload_n 1, 1) := by decide +kernel
theorem dX8_typeFor_7 : decode cX8_typeFor 7 = .ok (.iload_n 2, 1) := by decide +kernel
theorem dX8_typeFor_8 : decode cX8_typeFor 8 = .ok (.if_icmp .eq 23, 3) := by decide +kernel
theorem dX8_typeFor_11 : decode cX8_typeFor 11 = .ok (.iload_n 1, 1) := by decide +kernel
theorem dX8_typeFor_12 : decode cX8_typeFor 12 = .ok (.iconst 1, 1) := by decide +kernel
theorem dX8_typeFor_13 : decode cX8_typeFor 13 = .ok (.if_icmp .ne 8, 3) := by decide +kernel
theorem dX8_typeFor_16 : decode cX8_typeFor 16 = .ok (.iload_n 2, 1) := by decide +kernel
theorem dX8_typeFor_17 : decode cX8_typeFor 17 = .ok (.iconst 3, 1) := by decide +kernel
theorem dX8_typeFor_18 : decode cX8_typeFor 18 = .ok (.if_icmp .eq 13, 3) := by decide +kernel
theorem dX8_typeFor_21 : decode cX8_typeFor 21 = .ok (.iload_n 1, 1) := by decide +kernel
theorem dX8_typeFor_22 : decode cX8_typeFor 22 = .ok (.iconst 3, 1) := by decide +kernel
theorem dX8_typeFor_23 : decode cX8_typeFor 23 = .ok (.if_icmp .ne 12, 3) := by decide +kernel
theorem dX8_typeFor_26 : decode cX8_typeFor 26 = .ok (.iload_n 2, 1) := by decide +kernel
theorem dX8_typeFor_27 : decode cX8_typeFor 27 = .ok (.iconst 1, 1) := by decide +kernel
theorem dX8_typeFor_28 : decode cX8_typeFor 28 = .ok (.if_icmp .ne 7, 3) := by decide +kernel
theorem dX8_typeFor_31 : decode cX8_typeFor 31 = .ok (.iconst 1, 1) := by decide +kernel
theorem dX8_typeFor_32 : decode cX8_typeFor 32 = .ok (.goto 4, 3) := by decide +kernel
theorem dX8_typeFor_35 : decode cX8_typeFor 35 = .ok (.iconst 0, 1) := by decide +kernel
theorem dX8_typeFor_36 : decode cX8_typeFor 36 = .ok (.istore_n 3, 1) := by decide +kernel
theorem dX8_typeFor_37 : decode cX8_typeFor 37 = .ok (.iload_n 3, 1) := by decide +kernel
theorem dX8_typeFor_38 : decode cX8_typeFor 38 = .ok (.ifCond .eq 12, 3) := by decide +kernel
theorem dX8_typeFor_41 : decode cX8_typeFor 41 = .ok (.iload_n 1, 1) := by decide +kernel
theorem dX8_typeFor_42 : decode cX8_typeFor 42 = .ok (.iconst (-1), 1) := by decide +kernel
theorem dX8_typeFor_43 : decode cX8_typeFor 43 = .ok (.if_icmp .eq 7, 3) := by decide +kernel
theorem dX8_typeFor_46 : decode cX8_typeFor 46 = .ok (.iconst 2, 1) := by decide +kernel
theorem dX8_typeFor_47 : decode cX8_typeFor 47 = .ok (.goto 4, 3) := by decide +kernel
theorem dX8_typeFor_50 : decode cX8_typeFor 50 = .ok (.iconst (-1), 1) := by decide +kernel
theorem dX8_typeFor_51 : decode cX8_typeFor 51 = .ok (.ireturn, 1) := by decide +kernel
theorem dX8_typeFor_52 : decode cX8_typeFor 52 = .ok (.iload_n 0, 1) := by decide +kernel
theorem dX8_typeFor_53 : decode cX8_typeFor 53 = .ok (.bipush 38, 2) := by decide +kernel
theorem dX8_typeFor_55 : decode cX8_typeFor 55 = .ok (.if_icmp .eq 9, 3) := by decide +kernel
theorem dX8_typeFor_58 : decode cX8_typeFor 58 = .ok (.iload_n 0, 1) := by decide +kernel
theorem dX8_typeFor_59 : decode cX8_typeFor 59 = .ok (.bipush 124, 2) := by decide +kernel
theorem dX8_typeFor_61 : decode cX8_typeFor 61 = .ok (.if_icmp .ne 7, 3) := by decide +kernel
theorem dX8_typeFor_64 : decode cX8_typeFor 64 = .ok (.iconst 1, 1) := by decide +kernel
theorem dX8_typeFor_65 : decode cX8_typeFor 65 = .ok (.goto 4, 3) := by decide +kernel
theorem dX8_typeFor_68 : decode cX8_typeFor 68 = .ok (.iconst 0, 1) := by decide +kernel
theorem dX8_typeFor_69 : decode cX8_typeFor 69 = .ok (.istore_n 3, 1) := by decide +kernel
theorem dX8_typeFor_70 : decode cX8_typeFor 70 = .ok (.iload_n 3, 1) := by decide +kernel
theorem dX8_typeFor_71 : decode cX8_typeFor 71 = .ok (.ifCond .eq 7, 3) := by decide +kernel
theorem dX8_typeFor_74 : decode cX8_typeFor 74 = .ok (.iconst 2, 1) := by decide +kernel
theorem dX8_typeFor_75 : decode cX8_typeFor 75 = .ok (.goto 4, 3) := by decide +kernel
theorem dX8_typeFor_78 : decode cX8_typeFor 78 = .ok (.iconst 1, 1) := by decide +kernel
theorem dX8_typeFor_79 : decode cX8_typeFor 79 = .ok (.istore 4, 2) := by decide +kernel
theorem dX8_typeFor_81 : decode cX8_typeFor 81 = .ok (.iload_n 0, 1) := by decide +kernel
theorem dX8_typeFor_82 : decode cX8_typeFor 82 = .ok (.bipush 43, 2) := by decide +kernel
theorem dX8_typeFor_84 : decode cX8_typeFor 84 = .ok (.if_icmp .eq 15, 3) := by decide +kernel
theorem dX8_typeFor_87 : decode cX8_typeFor 87 = .ok (.iload_n 0, 1) := by decide +kernel
theorem dX8_typeFor_88 : decode cX8_typeFor 88 = .ok (.bipush 45, 2) := by decide +kernel
theorem dX8_typeFor_90 : decode cX8_typeFor 90 = .ok (.if_icmp .eq 9, 3) := by decide +kernel
theorem dX8_typeFor_93 : decode cX8_typeFor 93 = .ok (.iload_n 0, 1) := by decide +kernel
theorem dX8_typeFor_94 : decode cX8_typeFor 94 = .ok (.bipush 42, 2) := by decide +kernel
theorem dX8_typeFor_96 : decode cX8_typeFor 96 = .ok (.if_icmp .ne 7, 3) := by decide +kernel
theorem dX8_typeFor_99 : decode cX8_typeFor 99 = .ok (.iconst 1, 1) := by decide +kernel
theorem dX8_typeFor_100 : decode cX8_typeFor 100 = .ok (.goto 4, 3) := by decide +kernel
theorem dX8_typeFor_103 : decode cX8_typeFor 103 = .ok (.iconst 0, 1) := by decide +kernel
theorem dX8_typeFor_104 : decode cX8_typeFor 104 = .ok (.istore 5, 2) := by decide +kernel
theorem dX8_typeFor_106 : decode cX8_typeFor 106 = .ok (.iload_n 1, 1) := by decide +kernel
theorem dX8_typeFor_107 : decode cX8_typeFor 107 = .ok (.iload 4, 2) := by decide +kernel
theorem dX8_typeFor_109 : decode cX8_typeFor 109 = .ok (.if_icmp .ne 9, 3) := by decide +kernel
theorem dX8_typeFor_112 : decode cX8_typeFor 112 = .ok (.iload_n 2, 1) := by decide +kernel
theorem dX8_typeFor_113 : decode cX8_typeFor 113 = .ok (.iload 4, 2) := by decide +kernel
theorem dX8_typeFor_115 : decode cX8_typeFor 115 = .ok (.if_icmp .eq 7, 3) := by decide +kernel
theorem dX8_typeFor_118 : decode cX8_typeFor 118 = .ok (.iconst (-1), 1) := by decide +kernel
theorem dX8_typeFor_119 : decode cX8_typeFor 119 = .ok (.goto 13, 3) := by decide +kernel
theorem dX8_typeFor_122 : decode cX8_typeFor 122 = .ok (.iload 5, 2) := by decide +kernel
theorem dX8_typeFor_124 : decode cX8_typeFor 124 = .ok (.ifCond .eq 7, 3) := by decide +kernel
theorem dX8_typeFor_127 : decode cX8_typeFor 127 = .ok (.iconst 1, 1) := by decide +kernel
theorem dX8_typeFor_128 : decode cX8_typeFor 128 = .ok (.goto 4, 3) := by decide +kernel
theorem dX8_typeFor_131 : decode cX8_typeFor 131 = .ok (.iconst 2, 1) := by decide +kernel
theorem dX8_typeFor_132 : decode cX8_typeFor 132 = .ok (.ireturn, 1) := by decide +kernel
theorem dX8_typeOf_0 : decode cX8_typeOf 0 = .ok (.iconst 0, 1) := by decide +kernel
theorem dX8_typeOf_1 : decode cX8_typeOf 1 = .ok (.istore 4, 2) := by decide +kernel
theorem dX8_typeOf_3 : decode cX8_typeOf 3 = .ok (.iload_n 2, 1) := by decide +kernel
theorem dX8_typeOf_4 : decode cX8_typeOf 4 = .ok (.istore 5, 2) := by decide +kernel
theorem dX8_typeOf_6 : decode cX8_typeOf 6 = .ok (.iload 5, 2) := by decide +kernel
theorem dX8_typeOf_8 : decode cX8_typeOf 8 = .ok (.iload_n 2, 1) := by decide +kernel
theorem dX8_typeOf_9 : decode cX8_typeOf 9 = .ok (.iload_n 3, 1) := by decide +kernel
theorem dX8_typeOf_10 : decode cX8_typeOf 10 = .ok (.iadd, 1) := by decide +kernel
theorem dX8_typeOf_11 : decode cX8_typeOf 11 = .ok (.if_icmp .ge 162, 3) := by decide +kernel
theorem dX8_typeOf_14 : decode cX8_typeOf 14 = .ok (.aload_n 1, 1) := by decide +kernel
theorem dX8_typeOf_15 : decode cX8_typeOf 15 = .ok (.iload 5, 2) := by decide +kernel
theorem dX8_typeOf_17 : decode cX8_typeOf 17 = .ok (.iaload, 1) := by decide +kernel
theorem dX8_typeOf_18 : decode cX8_typeOf 18 = .ok (.istore 6, 2) := by decide +kernel
theorem dX8_typeOf_20 : decode cX8_typeOf 20 = .ok (.iload 6, 2) := by decide +kernel
theorem dX8_typeOf_22 : decode cX8_typeOf 22 = .ok (.sipush 1000, 3) := by decide +kernel
theorem dX8_typeOf_25 : decode cX8_typeOf 25 = .ok (.if_icmp .ge 17, 3) := by decide +kernel
theorem dX8_typeOf_28 : decode cX8_typeOf 28 = .ok (.aload_n 0, 1) := by decide +kernel
theorem dX8_typeOf_29 : decode cX8_typeOf 29 = .ok (.getfield 50, 3) := by decide +kernel
theorem dX8_typeOf_32 : decode cX8_typeOf 32 = .ok (.iload 4, 2) := by decide +kernel
theorem dX8_typeOf_34 : decode cX8_typeOf 34 = .ok (.iconst 1, 1) := by decide +kernel
theorem dX8_typeOf_35 : decode cX8_typeOf 35 = .ok (.iastore, 1) := by decide +kernel
theorem dX8_typeOf_36 : decode cX8_typeOf 36 = .ok (.iinc 4 1, 3) := by decide +kernel
theorem dX8_typeOf_39 : decode cX8_typeOf 39 = .ok (.goto 128, 3) := by decide +kernel
theorem dX8_typeOf_42 : decode cX8_typeOf 42 = .ok (.iload 6, 2) := by decide +kernel
theorem dX8_typeOf_44 : decode cX8_typeOf 44 = .ok (.sipush 2000, 3) := by decide +kernel
theorem dX8_typeOf_47 : decode cX8_typeOf 47 = .ok (.if_icmp .ge 45, 3) := by decide +kernel
theorem dX8_typeOf_50 : decode cX8_typeOf 50 = .ok (.aload_n 0, 1) := by decide +kernel
theorem dX8_typeOf_51 : decode cX8_typeOf 51 = .ok (.getfield 50, 3) := by decide +kernel
theorem dX8_typeOf_54 : decode cX8_typeOf 54 = .ok (.iload 4, 2) := by decide +kernel
theorem dX8_typeOf_56 : decode cX8_typeOf 56 = .ok (.aload_n 0, 1) := by decide +kernel
theorem dX8_typeOf_57 : decode cX8_typeOf 57 = .ok (.getfield 19, 3) := by decide +kernel
theorem dX8_typeOf_60 : decode cX8_typeOf 60 = .ok (.iload 6, 2) := by decide +kernel
theorem dX8_typeOf_62 : decode cX8_typeOf 62 = .ok (.sipush 1000, 3) := by decide +kernel
theorem dX8_typeOf_65 : decode cX8_typeOf 65 = .ok (.isub, 1) := by decide +kernel
theorem dX8_typeOf_66 : decode cX8_typeOf 66 = .ok (.iaload, 1) := by decide +kernel
theorem dX8_typeOf_67 : decode cX8_typeOf 67 = .ok (.ifCond .ne 7, 3) := by decide +kernel
theorem dX8_typeOf_70 : decode cX8_typeOf 70 = .ok (.iconst (-1), 1) := by decide +kernel
theorem dX8_typeOf_71 : decode cX8_typeOf 71 = .ok (.goto 14, 3) := by decide +kernel
theorem dX8_typeOf_74 : decode cX8_typeOf 74 = .ok (.aload_n 0, 1) := by decide +kernel
theorem dX8_typeOf_75 : decode cX8_typeOf 75 = .ok (.getfield 19, 3) := by decide +kernel
theorem dX8_typeOf_78 : decode cX8_typeOf 78 = .ok (.iload 6, 2) := by decide +kernel
theorem dX8_typeOf_80 : decode cX8_typeOf 80 = .ok (.sipush 1000, 3) := by decide +kernel
theorem dX8_typeOf_83 : decode cX8_typeOf 83 = .ok (.isub, 1) := by decide +kernel
theorem dX8_typeOf_84 : decode cX8_typeOf 84 = .ok (.iaload, 1) := by decide +kernel
theorem dX8_typeOf_85 : decode cX8_typeOf 85 = .ok (.iastore, 1) := by decide +kernel
theorem dX8_typeOf_86 : decode cX8_typeOf 86 = .ok (.iinc 4 1, 3) := by decide +kernel
theorem dX8_typeOf_89 : decode cX8_typeOf 89 = .ok (.goto 78, 3) := by decide +kernel
theorem dX8_typeOf_92 : decode cX8_typeOf 92 = .ok (.iload 6, 2) := by decide +kernel
theorem dX8_typeOf_94 : decode cX8_typeOf 94 = .ok (.sipush 2033, 3) := by decide +kernel
theorem dX8_typeOf_97 : decode cX8_typeOf 97 = .ok (.if_icmp .ne 33, 3) := by decide +kernel
theorem dX8_typeOf_100 : decode cX8_typeOf 100 = .ok (.aload_n 0, 1) := by decide +kernel
theorem dX8_typeOf_101 : decode cX8_typeOf 101 = .ok (.getfield 50, 3) := by decide +kernel
theorem dX8_typeOf_104 : decode cX8_typeOf 104 = .ok (.iload 4, 2) := by decide +kernel
theorem dX8_typeOf_106 : decode cX8_typeOf 106 = .ok (.iconst 1, 1) := by decide +kernel
theorem dX8_typeOf_107 : decode cX8_typeOf 107 = .ok (.isub, 1) := by decide +kernel
theorem dX8_typeOf_108 : decode cX8_typeOf 108 = .ok (.aload_n 0, 1) := by decide +kernel
theorem dX8_typeOf_109 : decode cX8_typeOf 109 = .ok (.getfield 50, 3) := by decide +kernel
theorem dX8_typeOf_112 : decode cX8_typeOf 112 = .ok (.iload 4, 2) := by decide +kernel
theorem dX8_typeOf_114 : decode cX8_typeOf 114 = .ok (.iconst 1, 1) := by decide +kernel
theorem dX8_typeOf_115 : decode cX8_typeOf 115 = .ok (.isub, 1) := by decide +kernel
theorem dX8_typeOf_116 : decode cX8_typeOf 116 = .ok (.iaload, 1) := by decide +kernel
theorem dX8_typeOf_117 : decode cX8_typeOf 117 = .ok (.iconst 2, 1) := by decide +kernel
theorem dX8_typeOf_118 : decode cX8_typeOf 118 = .ok (.if_icmp .ne 7, 3) := by decide +kernel
theorem dX8_typeOf_121 : decode cX8_typeOf 121 = .ok (.iconst 2, 1) := by decide +kernel
theorem dX8_typeOf_122 : decode cX8_typeOf 122 = .ok (.goto 4, 3) := by decide +kernel
theorem dX8_typeOf_125 : decode cX8_typeOf 125 = .ok (.iconst (-1), 1) := by decide +kernel
theorem dX8_typeOf_126 : decode cX8_typeOf 126 = .ok (.iastore, 1) := by decide +kernel
theorem dX8_typeOf_127 : decode cX8_typeOf 127 = .ok (.goto 40, 3) := by decide +kernel
theorem dX8_typeOf_130 : decode cX8_typeOf 130 = .ok (.iinc 4 (-1), 3) := by decide +kernel
theorem dX8_typeOf_133 : decode cX8_typeOf 133 = .ok (.aload_n 0, 1) := by decide +kernel
theorem dX8_typeOf_134 : decode cX8_typeOf 134 = .ok (.getfield 50, 3) := by decide +kernel
theorem dX8_typeOf_137 : decode cX8_typeOf 137 = .ok (.iload 4, 2) := by decide +kernel
theorem dX8_typeOf_139 : decode cX8_typeOf 139 = .ok (.iconst 1, 1) := by decide +kernel
theorem dX8_typeOf_140 : decode cX8_typeOf 140 = .ok (.isub, 1) := by decide +kernel
theorem dX8_typeOf_141 : decode cX8_typeOf 141 = .ok (.iload 6, 2) := by decide +kernel
theorem dX8_typeOf_143 : decode cX8_typeOf 143 = .ok (.sipush 2000, 3) := by decide +kernel
theorem dX8_typeOf_146 : decode cX8_typeOf 146 = .ok (.isub, 1) := by decide +kernel
theorem dX8_typeOf_147 : decode cX8_typeOf 147 = .ok (.aload_n 0, 1) := by decide +kernel
theorem dX8_typeOf_148 : decode cX8_typeOf 148 = .ok (.getfield 50, 3) := by decide +kernel
theorem dX8_typeOf_151 : decode cX8_typeOf 151 = .ok (.iload 4, 2) := by decide +kernel
theorem dX8_typeOf_153 : decode cX8_typeOf 153 = .ok (.iconst 1, 1) := by decide +kernel
theorem dX8_typeOf_154 : decode cX8_typeOf 154 = .ok (.isub, 1) := by decide +kernel
theorem dX8_typeOf_155 : decode cX8_typeOf 155 = .ok (.iaload, 1) := by decide +kernel
theorem dX8_typeOf_156 : decode cX8_typeOf 156 = .ok (.aload_n 0, 1) := by decide +kernel
theorem dX8_typeOf_157 : decode cX8_typeOf 157 = .ok (.getfield 50, 3) := by decide +kernel
theorem dX8_typeOf_160 : decode cX8_typeOf 160 = .ok (.iload 4, 2) := by decide +kernel
theorem dX8_typeOf_162 : decode cX8_typeOf 162 = .ok (.iaload, 1) := by decide +kernel
theorem dX8_typeOf_163 : decode cX8_typeOf 163 = .ok (.invokestatic 119, 3) := by decide +kernel
theorem dX8_typeOf_166 : decode cX8_typeOf 166 = .ok (.iastore, 1) := by decide +kernel
theorem dX8_typeOf_167 : decode cX8_typeOf 167 = .ok (.iinc 5 1, 3) := by decide +kernel
theorem dX8_typeOf_170 : decode cX8_typeOf 170 = .ok (.goto (-164), 3) := by decide +kernel
theorem dX8_typeOf_173 : decode cX8_typeOf 173 = .ok (.aload_n 0, 1) := by decide +kernel
theorem dX8_typeOf_174 : decode cX8_typeOf 174 = .ok (.getfield 50, 3) := by decide +kernel
theorem dX8_typeOf_177 : decode cX8_typeOf 177 = .ok (.iconst 0, 1) := by decide +kernel
theorem dX8_typeOf_178 : decode cX8_typeOf 178 = .ok (.iaload, 1) := by decide +kernel
theorem dX8_typeOf_179 : decode cX8_typeOf 179 = .ok (.ireturn, 1) := by decide +kernel
theorem dX8_valueFor_0 : decode cX8_valueFor 0 = .ok (.iload_n 0, 1) := by decide +kernel
theorem dX8_valueFor_1 : decode cX8_valueFor 1 = .ok (.bipush 43, 2) := by decide +kernel
theorem dX8_valueFor_3 : decode cX8_valueFor 3 = .ok (.if_icmp .eq 15, 3) := by decide +kernel
theorem dX8_valueFor_6 : decode cX8_valueFor 6 = .ok (.iload_n 0, 1) := by decide +kernel
theorem dX8_valueFor_7 : decode cX8_valueFor 7 = .ok (.bipush 45, 2) := by decide +kernel
theorem dX8_valueFor_9 : decode cX8_valueFor 9 = .ok (.if_icmp .eq 9, 3) := by decide +kernel
theorem dX8_valueFor_12 : decode cX8_valueFor 12 = .ok (.iload_n 0, 1) := by decide +kernel
theorem dX8_valueFor_13 : decode cX8_valueFor 13 = .ok (.bipush 42, 2) := by decide +kernel
theorem dX8_valueFor_15 : decode cX8_valueFor 15 = .ok (.if_icmp .ne 35, 3) := by decide +kernel
theorem dX8_valueFor_18 : decode cX8_valueFor 18 = .ok (.iload_n 0, 1) := by decide +kernel
theorem dX8_valueFor_19 : decode cX8_valueFor 19 = .ok (.bipush 43, 2) := by decide +kernel
theorem dX8_valueFor_21 : decode cX8_valueFor 21 = .ok (.if_icmp .ne 9, 3) := by decide +kernel
theorem dX8_valueFor_24 : decode cX8_valueFor 24 = .ok (.iload_n 1, 1) := by decide +kernel
theorem dX8_valueFor_25 : decode cX8_valueFor 25 = .ok (.iload_n 2, 1) := by decide +kernel
theorem dX8_valueFor_26 : decode cX8_valueFor 26 = .ok (.iadd, 1) := by decide +kernel
theorem dX8_valueFor_27 : decode cX8_valueFor 27 = .ok (.goto 18, 3) := by decide +kernel
theorem dX8_valueFor_30 : decode cX8_valueFor 30 = .ok (.iload_n 0, 1) := by decide +kernel
theorem dX8_valueFor_31 : decode cX8_valueFor 31 = .ok (.bipush 45, 2) := by decide +kernel
theorem dX8_valueFor_33 : decode cX8_valueFor 33 = .ok (.if_icmp .ne 9, 3) := by decide +kernel
theorem dX8_valueFor_36 : decode cX8_valueFor 36 = .ok (.iload_n 1, 1) := by decide +kernel
theorem dX8_valueFor_37 : decode cX8_valueFor 37 = .ok (.iload_n 2, 1) := by decide +kernel
theorem dX8_valueFor_38 : decode cX8_valueFor 38 = .ok (.isub, 1) := by decide +kernel
theorem dX8_valueFor_39 : decode cX8_valueFor 39 = .ok (.goto 6, 3) := by decide +kernel
theorem dX8_valueFor_42 : decode cX8_valueFor 42 = .ok (.iload_n 1, 1) := by decide +kernel
theorem dX8_valueFor_43 : decode cX8_valueFor 43 = .ok (.iload_n 2, 1) := by decide +kernel
theorem dX8_valueFor_44 : decode cX8_valueFor 44 = .ok (.imul, 1) := by decide +kernel
theorem dX8_valueFor_45 : decode cX8_valueFor 45 = .ok (.sipush 10000, 3) := by decide +kernel
theorem dX8_valueFor_48 : decode cX8_valueFor 48 = .ok (.irem, 1) := by decide +kernel
theorem dX8_valueFor_49 : decode cX8_valueFor 49 = .ok (.ireturn, 1) := by decide +kernel
theorem dX8_valueFor_50 : decode cX8_valueFor 50 = .ok (.iload_n 0, 1) := by decide +kernel
theorem dX8_valueFor_51 : decode cX8_valueFor 51 = .ok (.bipush 60, 2) := by decide +kernel
theorem dX8_valueFor_53 : decode cX8_valueFor 53 = .ok (.if_icmp .ne 16, 3) := by decide +kernel
theorem dX8_valueFor_56 : decode cX8_valueFor 56 = .ok (.iload_n 1, 1) := by decide +kernel
theorem dX8_valueFor_57 : decode cX8_valueFor 57 = .ok (.iload_n 2, 1) := by decide +kernel
theorem dX8_valueFor_58 : decode cX8_valueFor 58 = .ok (.if_icmp .ge 7, 3) := by decide +kernel
theorem dX8_valueFor_61 : decode cX8_valueFor 61 = .ok (.iconst 1, 1) := by decide +kernel
theorem dX8_valueFor_62 : decode cX8_valueFor 62 = .ok (.goto 84, 3) := by decide +kernel
theorem dX8_valueFor_65 : decode cX8_valueFor 65 = .ok (.iconst 0, 1) := by decide +kernel
theorem dX8_valueFor_66 : decode cX8_valueFor 66 = .ok (.goto 80, 3) := by decide +kernel
theorem dX8_valueFor_69 : decode cX8_valueFor 69 = .ok (.iload_n 0, 1) := by decide +kernel
theorem dX8_valueFor_70 : decode cX8_valueFor 70 = .ok (.bipush 62, 2) := by decide +kernel
theorem dX8_valueFor_72 : decode cX8_valueFor 72 = .ok (.if_icmp .ne 16, 3) := by decide +kernel
theorem dX8_valueFor_75 : decode cX8_valueFor 75 = .ok (.iload_n 1, 1) := by decide +kernel
theorem dX8_valueFor_76 : decode cX8_valueFor 76 = .ok (.iload_n 2, 1) := by decide +kernel
theorem dX8_valueFor_77 : decode cX8_valueFor 77 = .ok (.if_icmp .le 7, 3) := by decide +kernel
theorem dX8_valueFor_80 : decode cX8_valueFor 80 = .ok (.iconst 1, 1) := by decide +kernel
theorem dX8_valueFor_81 : decode cX8_valueFor 81 = .ok (.goto 65, 3) := by decide +kernel
theorem dX8_valueFor_84 : decode cX8_valueFor 84 = .ok (.iconst 0, 1) := by decide +kernel
theorem dX8_valueFor_85 : decode cX8_valueFor 85 = .ok (.goto 61, 3) := by decide +kernel
theorem dX8_valueFor_88 : decode cX8_valueFor 88 = .ok (.iload_n 0, 1) := by decide +kernel
theorem dX8_valueFor_89 : decode cX8_valueFor 89 = .ok (.bipush 61, 2) := by decide +kernel
theorem dX8_valueFor_91 : decode cX8_valueFor 91 = .ok (.if_icmp .ne 16, 3) := by decide +kernel
theorem dX8_valueFor_94 : decode cX8_valueFor 94 = .ok (.iload_n 1, 1) := by decide +kernel
theorem dX8_valueFor_95 : decode cX8_valueFor 95 = .ok (.iload_n 2, 1) := by decide +kernel
theorem dX8_valueFor_96 : decode cX8_valueFor 96 = .ok (.if_icmp .ne 7, 3) := by decide +kernel
theorem dX8_valueFor_99 : decode cX8_valueFor 99 = .ok (.iconst 1, 1) := by decide +kernel
theorem dX8_valueFor_100 : decode cX8_valueFor 100 = .ok (.goto 46, 3) := by decide +kernel
theorem dX8_valueFor_103 : decode cX8_valueFor 103 = .ok (.iconst 0, 1) := by decide +kernel
theorem dX8_valueFor_104 : decode cX8_valueFor 104 = .ok (.goto 42, 3) := by decide +kernel
theorem dX8_valueFor_107 : decode cX8_valueFor 107 = .ok (.iload_n 0, 1) := by decide +kernel
theorem dX8_valueFor_108 : decode cX8_valueFor 108 = .ok (.bipush 38, 2) := by decide +kernel
theorem dX8_valueFor_110 : decode cX8_valueFor 110 = .ok (.if_icmp .ne 21, 3) := by decide +kernel
theorem dX8_valueFor_113 : decode cX8_valueFor 113 = .ok (.iload_n 1, 1) := by decide +kernel
theorem dX8_valueFor_114 : decode cX8_valueFor 114 = .ok (.iconst 1, 1) := by decide +kernel
theorem dX8_valueFor_115 : decode cX8_valueFor 115 = .ok (.if_icmp .ne 12, 3) := by decide +kernel
theorem dX8_valueFor_118 : decode cX8_valueFor 118 = .ok (.iload_n 2, 1) := by decide +kernel
theorem dX8_valueFor_119 : decode cX8_valueFor 119 = .ok (.iconst 1, 1) := by decide +kernel
theorem dX8_valueFor_120 : decode cX8_valueFor 120 = .ok (.if_icmp .ne 7, 3) := by decide +kernel
theorem dX8_valueFor_123 : decode cX8_valueFor 123 = .ok (.iconst 1, 1) := by decide +kernel
theorem dX8_valueFor_124 : decode cX8_valueFor 124 = .ok (.goto 22, 3) := by decide +kernel
theorem dX8_valueFor_127 : decode cX8_valueFor 127 = .ok (.iconst 0, 1) := by decide +kernel
theorem dX8_valueFor_128 : decode cX8_valueFor 128 = .ok (.goto 18, 3) := by decide +kernel
theorem dX8_valueFor_131 : decode cX8_valueFor 131 = .ok (.iload_n 1, 1) := by decide +kernel
theorem dX8_valueFor_132 : decode cX8_valueFor 132 = .ok (.iconst 1, 1) := by decide +kernel
theorem dX8_valueFor_133 : decode cX8_valueFor 133 = .ok (.if_icmp .eq 8, 3) := by decide +kernel
theorem dX8_valueFor_136 : decode cX8_valueFor 136 = .ok (.iload_n 2, 1) := by decide +kernel
theorem dX8_valueFor_137 : decode cX8_valueFor 137 = .ok (.iconst 1, 1) := by decide +kernel
theorem dX8_valueFor_138 : decode cX8_valueFor 138 = .ok (.if_icmp .ne 7, 3) := by decide +kernel
theorem dX8_valueFor_141 : decode cX8_valueFor 141 = .ok (.iconst 1, 1) := by decide +kernel
theorem dX8_valueFor_142 : decode cX8_valueFor 142 = .ok (.goto 4, 3) := by decide +kernel
theorem dX8_valueFor_145 : decode cX8_valueFor 145 = .ok (.iconst 0, 1) := by decide +kernel
theorem dX8_valueFor_146 : decode cX8_valueFor 146 = .ok (.istore_n 3, 1) := by decide +kernel
theorem dX8_valueFor_147 : decode cX8_valueFor 147 = .ok (.iload_n 3, 1) := by decide +kernel
theorem dX8_valueFor_148 : decode cX8_valueFor 148 = .ok (.ifCond .eq 7, 3) := by decide +kernel
theorem dX8_valueFor_151 : decode cX8_valueFor 151 = .ok (.iconst 1, 1) := by decide +kernel
theorem dX8_valueFor_152 : decode cX8_valueFor 152 = .ok (.goto 4, 3) := by decide +kernel
theorem dX8_valueFor_155 : decode cX8_valueFor 155 = .ok (.iconst 0, 1) := by decide +kernel
theorem dX8_valueFor_156 : decode cX8_valueFor 156 = .ok (.ireturn, 1) := by decide +kernel
theorem dX8_valueOf_0 : decode cX8_valueOf 0 = .ok (.bipush 10, 2) := by decide +kernel
theorem dX8_valueOf_2 : decode cX8_valueOf 2 = .ok (.aload_n 0, 1) := by decide +kernel
theorem dX8_valueOf_3 : decode cX8_valueOf 3 = .ok (.getfield 25, 3) := by decide +kernel
theorem dX8_valueOf_6 : decode cX8_valueOf 6 = .ok (.iload_n 1, 1) := by decide +kernel
theorem dX8_valueOf_7 : decode cX8_valueOf 7 = .ok (.iaload, 1) := by decide +kernel
theorem dX8_valueOf_8 : decode cX8_valueOf 8 = .ok (.iconst 1, 1) := by decide +kernel
theorem dX8_valueOf_9 : decode cX8_valueOf 9 = .ok (.iadd, 1) := by decide +kernel
theorem dX8_valueOf_10 : decode cX8_valueOf 10 = .ok (.imul, 1) := by decide +kernel
theorem dX8_valueOf_11 : decode cX8_valueOf 11 = .ok (.iload_n 2, 1) := by decide +kernel
theorem dX8_valueOf_12 : decode cX8_valueOf 12 = .ok (.iadd, 1) := by decide +kernel
theorem dX8_valueOf_13 : decode cX8_valueOf 13 = .ok (.istore_n 3, 1) := by decide +kernel
theorem dX8_valueOf_14 : decode cX8_valueOf 14 = .ok (.iconst 0, 1) := by decide +kernel
theorem dX8_valueOf_15 : decode cX8_valueOf 15 = .ok (.istore 4, 2) := by decide +kernel
theorem dX8_valueOf_17 : decode cX8_valueOf 17 = .ok (.bipush 40, 2) := by decide +kernel
theorem dX8_valueOf_19 : decode cX8_valueOf 19 = .ok (.iload_n 3, 1) := by decide +kernel
theorem dX8_valueOf_20 : decode cX8_valueOf 20 = .ok (.imul, 1) := by decide +kernel
theorem dX8_valueOf_21 : decode cX8_valueOf 21 = .ok (.istore 5, 2) := by decide +kernel
theorem dX8_valueOf_23 : decode cX8_valueOf 23 = .ok (.iload 5, 2) := by decide +kernel
theorem dX8_valueOf_25 : decode cX8_valueOf 25 = .ok (.bipush 40, 2) := by decide +kernel
theorem dX8_valueOf_27 : decode cX8_valueOf 27 = .ok (.iload_n 3, 1) := by decide +kernel
theorem dX8_valueOf_28 : decode cX8_valueOf 28 = .ok (.imul, 1) := by decide +kernel
theorem dX8_valueOf_29 : decode cX8_valueOf 29 = .ok (.aload_n 0, 1) := by decide +kernel
theorem dX8_valueOf_30 : decode cX8_valueOf 30 = .ok (.getfield 16, 3) := by decide +kernel
theorem dX8_valueOf_33 : decode cX8_valueOf 33 = .ok (.iload_n 3, 1) := by decide +kernel
theorem dX8_valueOf_34 : decode cX8_valueOf 34 = .ok (.iaload, 1) := by decide +kernel
theorem dX8_valueOf_35 : decode cX8_valueOf 35 = .ok (.iadd, 1) := by decide +kernel
theorem dX8_valueOf_36 : decode cX8_valueOf 36 = .ok (.if_icmp .ge 146, 3) := by decide +kernel
theorem dX8_valueOf_39 : decode cX8_valueOf 39 = .ok (.aload_n 0, 1) := by decide +kernel
theorem dX8_valueOf_40 : decode cX8_valueOf 40 = .ok (.getfield 13, 3) := by decide +kernel
theorem dX8_valueOf_43 : decode cX8_valueOf 43 = .ok (.iload 5, 2) := by decide +kernel
theorem dX8_valueOf_45 : decode cX8_valueOf 45 = .ok (.iaload, 1) := by decide +kernel
theorem dX8_valueOf_46 : decode cX8_valueOf 46 = .ok (.istore 6, 2) := by decide +kernel
theorem dX8_valueOf_48 : decode cX8_valueOf 48 = .ok (.iload 6, 2) := by decide +kernel
theorem dX8_valueOf_50 : decode cX8_valueOf 50 = .ok (.sipush 1000, 3) := by decide +kernel
theorem dX8_valueOf_53 : decode cX8_valueOf 53 = .ok (.if_icmp .ge 18, 3) := by decide +kernel
theorem dX8_valueOf_56 : decode cX8_valueOf 56 = .ok (.aload_n 0, 1) := by decide +kernel
theorem dX8_valueOf_57 : decode cX8_valueOf 57 = .ok (.getfield 50, 3) := by decide +kernel
theorem dX8_valueOf_60 : decode cX8_valueOf 60 = .ok (.iload 4, 2) := by decide +kernel
theorem dX8_valueOf_62 : decode cX8_valueOf 62 = .ok (.iload 6, 2) := by decide +kernel
theorem dX8_valueOf_64 : decode cX8_valueOf 64 = .ok (.iastore, 1) := by decide +kernel
theorem dX8_valueOf_65 : decode cX8_valueOf 65 = .ok (.iinc 4 1, 3) := by decide +kernel
theorem dX8_valueOf_68 : decode cX8_valueOf 68 = .ok (.goto 108, 3) := by decide +kernel
theorem dX8_valueOf_71 : decode cX8_valueOf 71 = .ok (.iload 6, 2) := by decide +kernel
theorem dX8_valueOf_73 : decode cX8_valueOf 73 = .ok (.sipush 2000, 3) := by decide +kernel
theorem dX8_valueOf_76 : decode cX8_valueOf 76 = .ok (.if_icmp .ge 32, 3) := by decide +kernel
theorem dX8_valueOf_79 : decode cX8_valueOf 79 = .ok (.aload_n 0, 1) := by decide +kernel
theorem dX8_valueOf_80 : decode cX8_valueOf 80 = .ok (.getfield 50, 3) := by decide +kernel
theorem dX8_valueOf_83 : decode cX8_valueOf 83 = .ok (.iload 4, 2) := by decide +kernel
theorem dX8_valueOf_85 : decode cX8_valueOf 85 = .ok (.aload_n 0, 1) := by decide +kernel
theorem dX8_valueOf_86 : decode cX8_valueOf 86 = .ok (.getfield 28, 3) := by decide +kernel
theorem dX8_valueOf_89 : decode cX8_valueOf 89 = .ok (.bipush 6, 2) := by decide +kernel
theorem dX8_valueOf_91 : decode cX8_valueOf 91 = .ok (.iload_n 1, 1) := by decide +kernel
theorem dX8_valueOf_92 : decode cX8_valueOf 92 = .ok (.imul, 1) := by decide +kernel
theorem dX8_valueOf_93 : decode cX8_valueOf 93 = .ok (.iload 6, 2) := by decide +kernel
theorem dX8_valueOf_95 : decode cX8_valueOf 95 = .ok (.iadd, 1) := by decide +kernel
theorem dX8_valueOf_96 : decode cX8_valueOf 96 = .ok (.sipush 1000, 3) := by decide +kernel
theorem dX8_valueOf_99 : decode cX8_valueOf 99 = .ok (.isub, 1) := by decide +kernel
theorem dX8_valueOf_100 : decode cX8_valueOf 100 = .ok (.iaload, 1) := by decide +kernel
theorem dX8_valueOf_101 : decode cX8_valueOf 101 = .ok (.iastore, 1) := by decide +kernel
theorem dX8_valueOf_102 : decode cX8_valueOf 102 = .ok (.iinc 4 1, 3) := by decide +kernel
theorem dX8_valueOf_105 : decode cX8_valueOf 105 = .ok (.goto 71, 3) := by decide +kernel
theorem dX8_valueOf_108 : decode cX8_valueOf 108 = .ok (.iload 6, 2) := by decide +kernel
theorem dX8_valueOf_110 : decode cX8_valueOf 110 = .ok (.sipush 2033, 3) := by decide +kernel
theorem dX8_valueOf_113 : decode cX8_valueOf 113 = .ok (.if_icmp .ne 26, 3) := by decide +kernel
theorem dX8_valueOf_116 : decode cX8_valueOf 116 = .ok (.aload_n 0, 1) := by decide +kernel
theorem dX8_valueOf_117 : decode cX8_valueOf 117 = .ok (.getfield 50, 3) := by decide +kernel
theorem dX8_valueOf_120 : decode cX8_valueOf 120 = .ok (.iload 4, 2) := by decide +kernel
theorem dX8_valueOf_122 : decode cX8_valueOf 122 = .ok (.iconst 1, 1) := by decide +kernel
theorem dX8_valueOf_123 : decode cX8_valueOf 123 = .ok (.isub, 1) := by decide +kernel
theorem dX8_valueOf_124 : decode cX8_valueOf 124 = .ok (.iconst 1, 1) := by decide +kernel
theorem dX8_valueOf_125 : decode cX8_valueOf 125 = .ok (.aload_n 0, 1) := by decide +kernel
theorem dX8_valueOf_126 : decode cX8_valueOf 126 = .ok (.getfield 50, 3) := by decide +kernel
theorem dX8_valueOf_129 : decode cX8_valueOf 129 = .ok (.iload 4, 2) := by decide +kernel
theorem dX8_valueOf_131 : decode cX8_valueOf 131 = .ok (.iconst 1, 1) := by decide +kernel
theorem dX8_valueOf_132 : decode cX8_valueOf 132 = .ok (.isub, 1) := by decide +kernel
theorem dX8_valueOf_133 : decode cX8_valueOf 133 = .ok (.iaload, 1) := by decide +kernel
theorem dX8_valueOf_134 : decode cX8_valueOf 134 = .ok (.isub, 1) := by decide +kernel
theorem dX8_valueOf_135 : decode cX8_valueOf 135 = .ok (.iastore, 1) := by decide +kernel
theorem dX8_valueOf_136 : decode cX8_valueOf 136 = .ok (.goto 40, 3) := by decide +kernel
theorem dX8_valueOf_139 : decode cX8_valueOf 139 = .ok (.iinc 4 (-1), 3) := by decide +kernel
theorem dX8_valueOf_142 : decode cX8_valueOf 142 = .ok (.aload_n 0, 1) := by decide +kernel
theorem dX8_valueOf_143 : decode cX8_valueOf 143 = .ok (.getfield 50, 3) := by decide +kernel
theorem dX8_valueOf_146 : decode cX8_valueOf 146 = .ok (.iload 4, 2) := by decide +kernel
theorem dX8_valueOf_148 : decode cX8_valueOf 148 = .ok (.iconst 1, 1) := by decide +kernel
theorem dX8_valueOf_149 : decode cX8_valueOf 149 = .ok (.isub, 1) := by decide +kernel
theorem dX8_valueOf_150 : decode cX8_valueOf 150 = .ok (.iload 6, 2) := by decide +kernel
theorem dX8_valueOf_152 : decode cX8_valueOf 152 = .ok (.sipush 2000, 3) := by decide +kernel
theorem dX8_valueOf_155 : decode cX8_valueOf 155 = .ok (.isub, 1) := by decide +kernel
theorem dX8_valueOf_156 : decode cX8_valueOf 156 = .ok (.aload_n 0, 1) := by decide +kernel
theorem dX8_valueOf_157 : decode cX8_valueOf 157 = .ok (.getfield 50, 3) := by decide +kernel
theorem dX8_valueOf_160 : decode cX8_valueOf 160 = .ok (.iload 4, 2) := by decide +kernel
theorem dX8_valueOf_162 : decode cX8_valueOf 162 = .ok (.iconst 1, 1) := by decide +kernel
theorem dX8_valueOf_163 : decode cX8_valueOf 163 = .ok (.isub, 1) := by decide +kernel
theorem dX8_valueOf_164 : decode cX8_valueOf 164 = .ok (.iaload, 1) := by decide +kernel
theorem dX8_valueOf_165 : decode cX8_valueOf 165 = .ok (.aload_n 0, 1) := by decide +kernel
theorem dX8_valueOf_166 : decode cX8_valueOf 166 = .ok (.getfield 50, 3) := by decide +kernel
theorem dX8_valueOf_169 : decode cX8_valueOf 169 = .ok (.iload 4, 2) := by decide +kernel
theorem dX8_valueOf_171 : decode cX8_valueOf 171 = .ok (.iaload, 1) := by decide +kernel
theorem dX8_valueOf_172 : decode cX8_valueOf 172 = .ok (.invokestatic 123, 3) := by decide +kernel
theorem dX8_valueOf_175 : decode cX8_valueOf 175 = .ok (.iastore, 1) := by decide +kernel
theorem dX8_valueOf_176 : decode cX8_valueOf 176 = .ok (.iinc 5 1, 3) := by decide +kernel
theorem dX8_valueOf_179 : decode cX8_valueOf 179 = .ok (.goto (-156), 3) := by decide +kernel
theorem dX8_valueOf_182 : decode cX8_valueOf 182 = .ok (.aload_n 0, 1) := by decide +kernel
theorem dX8_valueOf_183 : decode cX8_valueOf 183 = .ok (.getfield 50, 3) := by decide +kernel
theorem dX8_valueOf_186 : decode cX8_valueOf 186 = .ok (.iconst 0, 1) := by decide +kernel
theorem dX8_valueOf_187 : decode cX8_valueOf 187 = .ok (.iaload, 1) := by decide +kernel
theorem dX8_valueOf_188 : decode cX8_valueOf 188 = .ok (.ireturn, 1) := by decide +kernel
theorem dX8_hasLetter_0 : decode cX8_hasLetter 0 = .ok (.iconst 0, 1) := by decide +kernel
theorem dX8_hasLetter_1 : decode cX8_hasLetter 1 = .ok (.istore_n 3, 1) := by decide +kernel
theorem dX8_hasLetter_2 : decode cX8_hasLetter 2 = .ok (.bipush 40, 2) := by decide +kernel
theorem dX8_hasLetter_4 : decode cX8_hasLetter 4 = .ok (.iload_n 1, 1) := by decide +kernel
theorem dX8_hasLetter_5 : decode cX8_hasLetter 5 = .ok (.imul, 1) := by decide +kernel
theorem dX8_hasLetter_6 : decode cX8_hasLetter 6 = .ok (.istore 4, 2) := by decide +kernel
theorem dX8_hasLetter_8 : decode cX8_hasLetter 8 = .ok (.iload 4, 2) := by decide +kernel
theorem dX8_hasLetter_10 : decode cX8_hasLetter 10 = .ok (.bipush 40, 2) := by decide +kernel
theorem dX8_hasLetter_12 : decode cX8_hasLetter 12 = .ok (.iload_n 1, 1) := by decide +kernel
theorem dX8_hasLetter_13 : decode cX8_hasLetter 13 = .ok (.imul, 1) := by decide +kernel
theorem dX8_hasLetter_14 : decode cX8_hasLetter 14 = .ok (.aload_n 0, 1) := by decide +kernel
theorem dX8_hasLetter_15 : decode cX8_hasLetter 15 = .ok (.getfield 16, 3) := by decide +kernel
theorem dX8_hasLetter_18 : decode cX8_hasLetter 18 = .ok (.iload_n 1, 1) := by decide +kernel
theorem dX8_hasLetter_19 : decode cX8_hasLetter 19 = .ok (.iaload, 1) := by decide +kernel
theorem dX8_hasLetter_20 : decode cX8_hasLetter 20 = .ok (.iadd, 1) := by decide +kernel
theorem dX8_hasLetter_21 : decode cX8_hasLetter 21 = .ok (.if_icmp .ge 34, 3) := by decide +kernel
theorem dX8_hasLetter_24 : decode cX8_hasLetter 24 = .ok (.iload_n 3, 1) := by decide +kernel
theorem dX8_hasLetter_25 : decode cX8_hasLetter 25 = .ok (.ifCond .ne 18, 3) := by decide +kernel
theorem dX8_hasLetter_28 : decode cX8_hasLetter 28 = .ok (.aload_n 0, 1) := by decide +kernel
theorem dX8_hasLetter_29 : decode cX8_hasLetter 29 = .ok (.getfield 13, 3) := by decide +kernel
theorem dX8_hasLetter_32 : decode cX8_hasLetter 32 = .ok (.iload 4, 2) := by decide +kernel
theorem dX8_hasLetter_34 : decode cX8_hasLetter 34 = .ok (.iaload, 1) := by decide +kernel
theorem dX8_hasLetter_35 : decode cX8_hasLetter 35 = .ok (.sipush 1000, 3) := by decide +kernel
theorem dX8_hasLetter_38 : decode cX8_hasLetter 38 = .ok (.iload_n 2, 1) := by decide +kernel
theorem dX8_hasLetter_39 : decode cX8_hasLetter 39 = .ok (.iadd, 1) := by decide +kernel
theorem dX8_hasLetter_40 : decode cX8_hasLetter 40 = .ok (.if_icmp .ne 7, 3) := by decide +kernel
theorem dX8_hasLetter_43 : decode cX8_hasLetter 43 = .ok (.iconst 1, 1) := by decide +kernel
theorem dX8_hasLetter_44 : decode cX8_hasLetter 44 = .ok (.goto 4, 3) := by decide +kernel
theorem dX8_hasLetter_47 : decode cX8_hasLetter 47 = .ok (.iconst 0, 1) := by decide +kernel
theorem dX8_hasLetter_48 : decode cX8_hasLetter 48 = .ok (.istore_n 3, 1) := by decide +kernel
theorem dX8_hasLetter_49 : decode cX8_hasLetter 49 = .ok (.iinc 4 1, 3) := by decide +kernel
theorem dX8_hasLetter_52 : decode cX8_hasLetter 52 = .ok (.goto (-44), 3) := by decide +kernel
theorem dX8_hasLetter_55 : decode cX8_hasLetter 55 = .ok (.iload_n 3, 1) := by decide +kernel
theorem dX8_hasLetter_56 : decode cX8_hasLetter 56 = .ok (.ireturn, 1) := by decide +kernel
theorem dX8_typeOfText_0 : decode cX8_typeOfText 0 = .ok (.aload_n 0, 1) := by decide +kernel
theorem dX8_typeOfText_1 : decode cX8_typeOfText 1 = .ok (.aload_n 0, 1) := by decide +kernel
theorem dX8_typeOfText_2 : decode cX8_typeOfText 2 = .ok (.invokevirtual 95, 3) := by decide +kernel
theorem dX8_typeOfText_5 : decode cX8_typeOfText 5 = .ok (.iconst (-1), 1) := by decide +kernel
theorem dX8_typeOfText_6 : decode cX8_typeOfText 6 = .ok (.if_icmp .ne 7, 3) := by decide +kernel
theorem dX8_typeOfText_9 : decode cX8_typeOfText 9 = .ok (.iconst 0, 1) := by decide +kernel
theorem dX8_typeOfText_10 : decode cX8_typeOfText 10 = .ok (.goto 4, 3) := by decide +kernel
theorem dX8_typeOfText_13 : decode cX8_typeOfText 13 = .ok (.iconst 1, 1) := by decide +kernel
theorem dX8_typeOfText_14 : decode cX8_typeOfText 14 = .ok (.putfield 66, 3) := by decide +kernel
theorem dX8_typeOfText_17 : decode cX8_typeOfText 17 = .ok (.aload_n 0, 1) := by decide +kernel
theorem dX8_typeOfText_18 : decode cX8_typeOfText 18 = .ok (.getfield 66, 3) := by decide +kernel
theorem dX8_typeOfText_21 : decode cX8_typeOfText 21 = .ok (.ifCond .le 5, 3) := by decide +kernel
theorem dX8_typeOfText_24 : decode cX8_typeOfText 24 = .ok (.iconst 0, 1) := by decide +kernel
theorem dX8_typeOfText_25 : decode cX8_typeOfText 25 = .ok (.ireturn, 1) := by decide +kernel
theorem dX8_typeOfText_26 : decode cX8_typeOfText 26 = .ok (.aload_n 0, 1) := by decide +kernel
theorem dX8_typeOfText_27 : decode cX8_typeOfText 27 = .ok (.invokevirtual 126, 3) := by decide +kernel
theorem dX8_typeOfText_30 : decode cX8_typeOfText 30 = .ok (.aload_n 0, 1) := by decide +kernel
theorem dX8_typeOfText_31 : decode cX8_typeOfText 31 = .ok (.aload_n 0, 1) := by decide +kernel
theorem dX8_typeOfText_32 : decode cX8_typeOfText 32 = .ok (.getfield 44, 3) := by decide +kernel
theorem dX8_typeOfText_35 : decode cX8_typeOfText 35 = .ok (.iconst 0, 1) := by decide +kernel
theorem dX8_typeOfText_36 : decode cX8_typeOfText 36 = .ok (.aload_n 0, 1) := by decide +kernel
theorem dX8_typeOfText_37 : decode cX8_typeOfText 37 = .ok (.getfield 99, 3) := by decide +kernel
theorem dX8_typeOfText_40 : decode cX8_typeOfText 40 = .ok (.invokevirtual 129, 3) := by decide +kernel
theorem dX8_typeOfText_43 : decode cX8_typeOfText 43 = .ok (.ireturn, 1) := by decide +kernel
theorem dX8_dueType_0 : decode cX8_dueType 0 = .ok (.iload_n 1, 1) := by decide +kernel
theorem dX8_dueType_1 : decode cX8_dueType 1 = .ok (.bipush 6, 2) := by decide +kernel
theorem dX8_dueType_3 : decode cX8_dueType 3 = .ok (.if_icmp .ge 12, 3) := by decide +kernel
theorem dX8_dueType_6 : decode cX8_dueType 6 = .ok (.aload_n 0, 1) := by decide +kernel
theorem dX8_dueType_7 : decode cX8_dueType 7 = .ok (.getfield 19, 3) := by decide +kernel
theorem dX8_dueType_10 : decode cX8_dueType 10 = .ok (.iload_n 1, 1) := by decide +kernel
theorem dX8_dueType_11 : decode cX8_dueType 11 = .ok (.iaload, 1) := by decide +kernel
theorem dX8_dueType_12 : decode cX8_dueType 12 = .ok (.goto 4, 3) := by decide +kernel
theorem dX8_dueType_15 : decode cX8_dueType 15 = .ok (.iconst 2, 1) := by decide +kernel
theorem dX8_dueType_16 : decode cX8_dueType 16 = .ok (.ireturn, 1) := by decide +kernel
theorem dX8_breaks_0 : decode cX8_breaks 0 = .ok (.aload_n 0, 1) := by decide +kernel
theorem dX8_breaks_1 : decode cX8_breaks 1 = .ok (.getfield 16, 3) := by decide +kernel
theorem dX8_breaks_4 : decode cX8_breaks 4 = .ok (.iload_n 1, 1) := by decide +kernel
theorem dX8_breaks_5 : decode cX8_breaks 5 = .ok (.iaload, 1) := by decide +kernel
theorem dX8_breaks_6 : decode cX8_breaks 6 = .ok (.ifCond .le 33, 3) := by decide +kernel
theorem dX8_breaks_9 : decode cX8_breaks 9 = .ok (.aload_n 0, 1) := by decide +kernel
theorem dX8_breaks_10 : decode cX8_breaks 10 = .ok (.aload_n 0, 1) := by decide +kernel
theorem dX8_breaks_11 : decode cX8_breaks 11 = .ok (.getfield 13, 3) := by decide +kernel
theorem dX8_breaks_14 : decode cX8_breaks 14 = .ok (.bipush 40, 2) := by decide +kernel
theorem dX8_breaks_16 : decode cX8_breaks 16 = .ok (.iload_n 1, 1) := by decide +kernel
theorem dX8_breaks_17 : decode cX8_breaks 17 = .ok (.imul, 1) := by decide +kernel
theorem dX8_breaks_18 : decode cX8_breaks 18 = .ok (.aload_n 0, 1) := by decide +kernel
theorem dX8_breaks_19 : decode cX8_breaks 19 = .ok (.getfield 16, 3) := by decide +kernel
theorem dX8_breaks_22 : decode cX8_breaks 22 = .ok (.iload_n 1, 1) := by decide +kernel
theorem dX8_breaks_23 : decode cX8_breaks 23 = .ok (.iaload, 1) := by decide +kernel
theorem dX8_breaks_24 : decode cX8_breaks 24 = .ok (.invokevirtual 129, 3) := by decide +kernel
end
section
theorem dX8_breaks_27 : decode cX8_breaks 27 = .ok (.aload_n 0, 1) := by decide +kernel
theorem dX8_breaks_28 : decode cX8_breaks 28 = .ok (.iload_n 1, 1) := by decide +kernel
theorem dX8_breaks_29 : decode cX8_breaks 29 = .ok (.invokevirtual 133, 3) := by decide +kernel
theorem dX8_breaks_32 : decode cX8_breaks 32 = .ok (.if_icmp .eq 7, 3) := by decide +kernel
theorem dX8_breaks_35 : decode cX8_breaks 35 = .ok (.iconst 1, 1) := by decide +kernel
theorem dX8_breaks_36 : decode cX8_breaks 36 = .ok (.goto 4, 3) := by decide +kernel
theorem dX8_breaks_39 : decode cX8_breaks 39 = .ok (.iconst 0, 1) := by decide +kernel
theorem dX8_breaks_40 : decode cX8_breaks 40 = .ok (.ireturn, 1) := by decide +kernel
theorem dX8_brokenMany_0 : decode cX8_brokenMany 0 = .ok (.iconst 0, 1) := by decide +kernel
theorem dX8_brokenMany_1 : decode cX8_brokenMany 1 = .ok (.istore_n 1, 1) := by decide +kernel
theorem dX8_brokenMany_2 : decode cX8_brokenMany 2 = .ok (.iconst 0, 1) := by decide +kernel
theorem dX8_brokenMany_3 : decode cX8_brokenMany 3 = .ok (.istore_n 2, 1) := by decide +kernel
theorem dX8_brokenMany_4 : decode cX8_brokenMany 4 = .ok (.iload_n 2, 1) := by decide +kernel
theorem dX8_brokenMany_5 : decode cX8_brokenMany 5 = .ok (.bipush 10, 2) := by decide +kernel
theorem dX8_brokenMany_7 : decode cX8_brokenMany 7 = .ok (.if_icmp .ge 25, 3) := by decide +kernel
theorem dX8_brokenMany_10 : decode cX8_brokenMany 10 = .ok (.iload_n 1, 1) := by decide +kernel
theorem dX8_brokenMany_11 : decode cX8_brokenMany 11 = .ok (.aload_n 0, 1) := by decide +kernel
theorem dX8_brokenMany_12 : decode cX8_brokenMany 12 = .ok (.iload_n 2, 1) := by decide +kernel
theorem dX8_brokenMany_13 : decode cX8_brokenMany 13 = .ok (.invokevirtual 136, 3) := by decide +kernel
theorem dX8_brokenMany_16 : decode cX8_brokenMany 16 = .ok (.ifCond .eq 7, 3) := by decide +kernel
theorem dX8_brokenMany_19 : decode cX8_brokenMany 19 = .ok (.iconst 1, 1) := by decide +kernel
theorem dX8_brokenMany_20 : decode cX8_brokenMany 20 = .ok (.goto 4, 3) := by decide +kernel
theorem dX8_brokenMany_23 : decode cX8_brokenMany 23 = .ok (.iconst 0, 1) := by decide +kernel
theorem dX8_brokenMany_24 : decode cX8_brokenMany 24 = .ok (.iadd, 1) := by decide +kernel
theorem dX8_brokenMany_25 : decode cX8_brokenMany 25 = .ok (.istore_n 1, 1) := by decide +kernel
theorem dX8_brokenMany_26 : decode cX8_brokenMany 26 = .ok (.iinc 2 1, 3) := by decide +kernel
theorem dX8_brokenMany_29 : decode cX8_brokenMany 29 = .ok (.goto (-25), 3) := by decide +kernel
theorem dX8_brokenMany_32 : decode cX8_brokenMany 32 = .ok (.iload_n 1, 1) := by decide +kernel
theorem dX8_brokenMany_33 : decode cX8_brokenMany 33 = .ok (.ireturn, 1) := by decide +kernel
theorem dX8_setType_0 : decode cX8_setType 0 = .ok (.aload_n 0, 1) := by decide +kernel
theorem dX8_setType_1 : decode cX8_setType 1 = .ok (.iload_n 1, 1) := by decide +kernel
theorem dX8_setType_2 : decode cX8_setType 2 = .ok (.invokestatic 139, 3) := by decide +kernel
theorem dX8_setType_5 : decode cX8_setType 5 = .ok (.ifCond .ne 7, 3) := by decide +kernel
theorem dX8_setType_8 : decode cX8_setType 8 = .ok (.iconst 1, 1) := by decide +kernel
theorem dX8_setType_9 : decode cX8_setType 9 = .ok (.goto 17, 3) := by decide +kernel
theorem dX8_setType_12 : decode cX8_setType 12 = .ok (.iload_n 2, 1) := by decide +kernel
theorem dX8_setType_13 : decode cX8_setType 13 = .ok (.iconst 0, 1) := by decide +kernel
theorem dX8_setType_14 : decode cX8_setType 14 = .ok (.iconst 3, 1) := by decide +kernel
theorem dX8_setType_15 : decode cX8_setType 15 = .ok (.invokestatic 69, 3) := by decide +kernel
theorem dX8_setType_18 : decode cX8_setType 18 = .ok (.ifCond .ne 7, 3) := by decide +kernel
theorem dX8_setType_21 : decode cX8_setType 21 = .ok (.iconst 2, 1) := by decide +kernel
theorem dX8_setType_22 : decode cX8_setType 22 = .ok (.goto 4, 3) := by decide +kernel
theorem dX8_setType_25 : decode cX8_setType 25 = .ok (.iconst 0, 1) := by decide +kernel
theorem dX8_setType_26 : decode cX8_setType 26 = .ok (.putfield 66, 3) := by decide +kernel
theorem dX8_setType_29 : decode cX8_setType 29 = .ok (.aload_n 0, 1) := by decide +kernel
theorem dX8_setType_30 : decode cX8_setType 30 = .ok (.getfield 66, 3) := by decide +kernel
theorem dX8_setType_33 : decode cX8_setType 33 = .ok (.ifCond .le 5, 3) := by decide +kernel
theorem dX8_setType_36 : decode cX8_setType 36 = .ok (.iconst 0, 1) := by decide +kernel
theorem dX8_setType_37 : decode cX8_setType 37 = .ok (.ireturn, 1) := by decide +kernel
theorem dX8_setType_38 : decode cX8_setType 38 = .ok (.aload_n 0, 1) := by decide +kernel
theorem dX8_setType_39 : decode cX8_setType 39 = .ok (.getfield 19, 3) := by decide +kernel
theorem dX8_setType_42 : decode cX8_setType 42 = .ok (.iload_n 1, 1) := by decide +kernel
theorem dX8_setType_43 : decode cX8_setType 43 = .ok (.iload_n 2, 1) := by decide +kernel
theorem dX8_setType_44 : decode cX8_setType 44 = .ok (.iastore, 1) := by decide +kernel
theorem dX8_setType_45 : decode cX8_setType 45 = .ok (.aload_n 0, 1) := by decide +kernel
theorem dX8_setType_46 : decode cX8_setType 46 = .ok (.invokevirtual 142, 3) := by decide +kernel
theorem dX8_setType_49 : decode cX8_setType 49 = .ok (.ireturn, 1) := by decide +kernel
theorem dX8_isReached_0 : decode cX8_isReached 0 = .ok (.iconst 0, 1) := by decide +kernel
theorem dX8_isReached_1 : decode cX8_isReached 1 = .ok (.istore_n 2, 1) := by decide +kernel
theorem dX8_isReached_2 : decode cX8_isReached 2 = .ok (.iconst 0, 1) := by decide +kernel
theorem dX8_isReached_3 : decode cX8_isReached 3 = .ok (.istore_n 3, 1) := by decide +kernel
theorem dX8_isReached_4 : decode cX8_isReached 4 = .ok (.iload_n 3, 1) := by decide +kernel
theorem dX8_isReached_5 : decode cX8_isReached 5 = .ok (.aload_n 0, 1) := by decide +kernel
theorem dX8_isReached_6 : decode cX8_isReached 6 = .ok (.getfield 99, 3) := by decide +kernel
theorem dX8_isReached_9 : decode cX8_isReached 9 = .ok (.if_icmp .ge 46, 3) := by decide +kernel
theorem dX8_isReached_12 : decode cX8_isReached 12 = .ok (.iload_n 2, 1) := by decide +kernel
theorem dX8_isReached_13 : decode cX8_isReached 13 = .ok (.aload_n 0, 1) := by decide +kernel
theorem dX8_isReached_14 : decode cX8_isReached 14 = .ok (.getfield 44, 3) := by decide +kernel
theorem dX8_isReached_17 : decode cX8_isReached 17 = .ok (.iload_n 3, 1) := by decide +kernel
theorem dX8_isReached_18 : decode cX8_isReached 18 = .ok (.iaload, 1) := by decide +kernel
theorem dX8_isReached_19 : decode cX8_isReached 19 = .ok (.sipush 1000, 3) := by decide +kernel
theorem dX8_isReached_22 : decode cX8_isReached 22 = .ok (.sipush 1005, 3) := by decide +kernel
theorem dX8_isReached_25 : decode cX8_isReached 25 = .ok (.invokestatic 69, 3) := by decide +kernel
theorem dX8_isReached_28 : decode cX8_isReached 28 = .ok (.ifCond .eq 18, 3) := by decide +kernel
theorem dX8_isReached_31 : decode cX8_isReached 31 = .ok (.iconst 1, 1) := by decide +kernel
theorem dX8_isReached_32 : decode cX8_isReached 32 = .ok (.aload_n 0, 1) := by decide +kernel
theorem dX8_isReached_33 : decode cX8_isReached 33 = .ok (.getfield 44, 3) := by decide +kernel
theorem dX8_isReached_36 : decode cX8_isReached 36 = .ok (.iload_n 3, 1) := by decide +kernel
theorem dX8_isReached_37 : decode cX8_isReached 37 = .ok (.iaload, 1) := by decide +kernel
theorem dX8_isReached_38 : decode cX8_isReached 38 = .ok (.sipush 1000, 3) := by decide +kernel
theorem dX8_isReached_41 : decode cX8_isReached 41 = .ok (.isub, 1) := by decide +kernel
theorem dX8_isReached_42 : decode cX8_isReached 42 = .ok (.ishl, 1) := by decide +kernel
theorem dX8_isReached_43 : decode cX8_isReached 43 = .ok (.goto 4, 3) := by decide +kernel
theorem dX8_isReached_46 : decode cX8_isReached 46 = .ok (.iconst 0, 1) := by decide +kernel
theorem dX8_isReached_47 : decode cX8_isReached 47 = .ok (.ior, 1) := by decide +kernel
theorem dX8_isReached_48 : decode cX8_isReached 48 = .ok (.istore_n 2, 1) := by decide +kernel
theorem dX8_isReached_49 : decode cX8_isReached 49 = .ok (.iinc 3 1, 3) := by decide +kernel
theorem dX8_isReached_52 : decode cX8_isReached 52 = .ok (.goto (-48), 3) := by decide +kernel
theorem dX8_isReached_55 : decode cX8_isReached 55 = .ok (.iconst 0, 1) := by decide +kernel
theorem dX8_isReached_56 : decode cX8_isReached 56 = .ok (.istore_n 3, 1) := by decide +kernel
theorem dX8_isReached_57 : decode cX8_isReached 57 = .ok (.iload_n 3, 1) := by decide +kernel
theorem dX8_isReached_58 : decode cX8_isReached 58 = .ok (.bipush 6, 2) := by decide +kernel
theorem dX8_isReached_60 : decode cX8_isReached 60 = .ok (.if_icmp .ge 79, 3) := by decide +kernel
theorem dX8_isReached_63 : decode cX8_isReached 63 = .ok (.iconst 0, 1) := by decide +kernel
theorem dX8_isReached_64 : decode cX8_isReached 64 = .ok (.istore 4, 2) := by decide +kernel
theorem dX8_isReached_66 : decode cX8_isReached 66 = .ok (.iload 4, 2) := by decide +kernel
theorem dX8_isReached_68 : decode cX8_isReached 68 = .ok (.bipush 6, 2) := by decide +kernel
theorem dX8_isReached_70 : decode cX8_isReached 70 = .ok (.if_icmp .ge 63, 3) := by decide +kernel
theorem dX8_isReached_73 : decode cX8_isReached 73 = .ok (.iconst 0, 1) := by decide +kernel
theorem dX8_isReached_74 : decode cX8_isReached 74 = .ok (.istore 5, 2) := by decide +kernel
theorem dX8_isReached_76 : decode cX8_isReached 76 = .ok (.iload 5, 2) := by decide +kernel
theorem dX8_isReached_78 : decode cX8_isReached 78 = .ok (.bipush 6, 2) := by decide +kernel
theorem dX8_isReached_80 : decode cX8_isReached 80 = .ok (.if_icmp .ge 47, 3) := by decide +kernel
theorem dX8_isReached_83 : decode cX8_isReached 83 = .ok (.iload_n 2, 1) := by decide +kernel
theorem dX8_isReached_84 : decode cX8_isReached 84 = .ok (.iload_n 2, 1) := by decide +kernel
theorem dX8_isReached_85 : decode cX8_isReached 85 = .ok (.iload 4, 2) := by decide +kernel
theorem dX8_isReached_87 : decode cX8_isReached 87 = .ok (.ishr, 1) := by decide +kernel
theorem dX8_isReached_88 : decode cX8_isReached 88 = .ok (.iconst 1, 1) := by decide +kernel
theorem dX8_isReached_89 : decode cX8_isReached 89 = .ok (.iand, 1) := by decide +kernel
theorem dX8_isReached_90 : decode cX8_isReached 90 = .ok (.iconst 1, 1) := by decide +kernel
theorem dX8_isReached_91 : decode cX8_isReached 91 = .ok (.if_icmp .ne 27, 3) := by decide +kernel
theorem dX8_isReached_94 : decode cX8_isReached 94 = .ok (.iload 4, 2) := by decide +kernel
theorem dX8_isReached_96 : decode cX8_isReached 96 = .ok (.iload_n 1, 1) := by decide +kernel
theorem dX8_isReached_97 : decode cX8_isReached 97 = .ok (.if_icmp .eq 21, 3) := by decide +kernel
theorem dX8_isReached_100 : decode cX8_isReached 100 = .ok (.aload_n 0, 1) := by decide +kernel
theorem dX8_isReached_101 : decode cX8_isReached 101 = .ok (.iload 4, 2) := by decide +kernel
theorem dX8_isReached_103 : decode cX8_isReached 103 = .ok (.iload 5, 2) := by decide +kernel
theorem dX8_isReached_105 : decode cX8_isReached 105 = .ok (.invokevirtual 145, 3) := by decide +kernel
theorem dX8_isReached_108 : decode cX8_isReached 108 = .ok (.ifCond .eq 10, 3) := by decide +kernel
theorem dX8_isReached_111 : decode cX8_isReached 111 = .ok (.iconst 1, 1) := by decide +kernel
theorem dX8_isReached_112 : decode cX8_isReached 112 = .ok (.iload 5, 2) := by decide +kernel
theorem dX8_isReached_114 : decode cX8_isReached 114 = .ok (.ishl, 1) := by decide +kernel
theorem dX8_isReached_115 : decode cX8_isReached 115 = .ok (.goto 4, 3) := by decide +kernel
theorem dX8_isReached_118 : decode cX8_isReached 118 = .ok (.iconst 0, 1) := by decide +kernel
theorem dX8_isReached_119 : decode cX8_isReached 119 = .ok (.ior, 1) := by decide +kernel
theorem dX8_isReached_120 : decode cX8_isReached 120 = .ok (.istore_n 2, 1) := by decide +kernel
theorem dX8_isReached_121 : decode cX8_isReached 121 = .ok (.iinc 5 1, 3) := by decide +kernel
theorem dX8_isReached_124 : decode cX8_isReached 124 = .ok (.goto (-48), 3) := by decide +kernel
theorem dX8_isReached_127 : decode cX8_isReached 127 = .ok (.iinc 4 1, 3) := by decide +kernel
theorem dX8_isReached_130 : decode cX8_isReached 130 = .ok (.goto (-64), 3) := by decide +kernel
theorem dX8_isReached_133 : decode cX8_isReached 133 = .ok (.iinc 3 1, 3) := by decide +kernel
theorem dX8_isReached_136 : decode cX8_isReached 136 = .ok (.goto (-79), 3) := by decide +kernel
theorem dX8_isReached_139 : decode cX8_isReached 139 = .ok (.iload_n 2, 1) := by decide +kernel
theorem dX8_isReached_140 : decode cX8_isReached 140 = .ok (.iload_n 1, 1) := by decide +kernel
theorem dX8_isReached_141 : decode cX8_isReached 141 = .ok (.ishr, 1) := by decide +kernel
theorem dX8_isReached_142 : decode cX8_isReached 142 = .ok (.iconst 1, 1) := by decide +kernel
theorem dX8_isReached_143 : decode cX8_isReached 143 = .ok (.iand, 1) := by decide +kernel
theorem dX8_isReached_144 : decode cX8_isReached 144 = .ok (.iconst 1, 1) := by decide +kernel
theorem dX8_isReached_145 : decode cX8_isReached 145 = .ok (.if_icmp .ne 7, 3) := by decide +kernel
theorem dX8_isReached_148 : decode cX8_isReached 148 = .ok (.iconst 1, 1) := by decide +kernel
theorem dX8_isReached_149 : decode cX8_isReached 149 = .ok (.goto 4, 3) := by decide +kernel
theorem dX8_isReached_152 : decode cX8_isReached 152 = .ok (.iconst 0, 1) := by decide +kernel
theorem dX8_isReached_153 : decode cX8_isReached 153 = .ok (.ireturn, 1) := by decide +kernel
theorem dX8_setFormula_0 : decode cX8_setFormula 0 = .ok (.aload_n 0, 1) := by decide +kernel
theorem dX8_setFormula_1 : decode cX8_setFormula 1 = .ok (.iload_n 1, 1) := by decide +kernel
theorem dX8_setFormula_2 : decode cX8_setFormula 2 = .ok (.invokestatic 149, 3) := by decide +kernel
theorem dX8_setFormula_5 : decode cX8_setFormula 5 = .ok (.ifCond .ne 7, 3) := by decide +kernel
theorem dX8_setFormula_8 : decode cX8_setFormula 8 = .ok (.iconst 1, 1) := by decide +kernel
theorem dX8_setFormula_9 : decode cX8_setFormula 9 = .ok (.goto 16, 3) := by decide +kernel
theorem dX8_setFormula_12 : decode cX8_setFormula 12 = .ok (.aload_n 0, 1) := by decide +kernel
theorem dX8_setFormula_13 : decode cX8_setFormula 13 = .ok (.invokevirtual 95, 3) := by decide +kernel
theorem dX8_setFormula_16 : decode cX8_setFormula 16 = .ok (.iconst (-1), 1) := by decide +kernel
theorem dX8_setFormula_17 : decode cX8_setFormula 17 = .ok (.if_icmp .eq 7, 3) := by decide +kernel
theorem dX8_setFormula_20 : decode cX8_setFormula 20 = .ok (.iconst 2, 1) := by decide +kernel
theorem dX8_setFormula_21 : decode cX8_setFormula 21 = .ok (.goto 4, 3) := by decide +kernel
theorem dX8_setFormula_24 : decode cX8_setFormula 24 = .ok (.iconst 0, 1) := by decide +kernel
theorem dX8_setFormula_25 : decode cX8_setFormula 25 = .ok (.putfield 66, 3) := by decide +kernel
theorem dX8_setFormula_28 : decode cX8_setFormula 28 = .ok (.aload_n 0, 1) := by decide +kernel
theorem dX8_setFormula_29 : decode cX8_setFormula 29 = .ok (.getfield 66, 3) := by decide +kernel
theorem dX8_setFormula_32 : decode cX8_setFormula 32 = .ok (.ifCond .ne 51, 3) := by decide +kernel
theorem dX8_setFormula_35 : decode cX8_setFormula 35 = .ok (.aload_n 0, 1) := by decide +kernel
theorem dX8_setFormula_36 : decode cX8_setFormula 36 = .ok (.invokevirtual 126, 3) := by decide +kernel
theorem dX8_setFormula_39 : decode cX8_setFormula 39 = .ok (.aload_n 0, 1) := by decide +kernel
theorem dX8_setFormula_40 : decode cX8_setFormula 40 = .ok (.aload_n 0, 1) := by decide +kernel
theorem dX8_setFormula_41 : decode cX8_setFormula 41 = .ok (.aload_n 0, 1) := by decide +kernel
theorem dX8_setFormula_42 : decode cX8_setFormula 42 = .ok (.getfield 44, 3) := by decide +kernel
theorem dX8_setFormula_45 : decode cX8_setFormula 45 = .ok (.iconst 0, 1) := by decide +kernel
theorem dX8_setFormula_46 : decode cX8_setFormula 46 = .ok (.aload_n 0, 1) := by decide +kernel
theorem dX8_setFormula_47 : decode cX8_setFormula 47 = .ok (.getfield 99, 3) := by decide +kernel
theorem dX8_setFormula_50 : decode cX8_setFormula 50 = .ok (.invokevirtual 129, 3) := by decide +kernel
theorem dX8_setFormula_53 : decode cX8_setFormula 53 = .ok (.aload_n 0, 1) := by decide +kernel
theorem dX8_setFormula_54 : decode cX8_setFormula 54 = .ok (.iload_n 1, 1) := by decide +kernel
theorem dX8_setFormula_55 : decode cX8_setFormula 55 = .ok (.invokevirtual 133, 3) := by decide +kernel
theorem dX8_setFormula_58 : decode cX8_setFormula 58 = .ok (.if_icmp .ne 17, 3) := by decide +kernel
theorem dX8_setFormula_61 : decode cX8_setFormula 61 = .ok (.iload_n 1, 1) := by decide +kernel
theorem dX8_setFormula_62 : decode cX8_setFormula 62 = .ok (.bipush 6, 2) := by decide +kernel
theorem dX8_setFormula_64 : decode cX8_setFormula 64 = .ok (.if_icmp .ge 15, 3) := by decide +kernel
theorem dX8_setFormula_67 : decode cX8_setFormula 67 = .ok (.aload_n 0, 1) := by decide +kernel
theorem dX8_setFormula_68 : decode cX8_setFormula 68 = .ok (.iload_n 1, 1) := by decide +kernel
theorem dX8_setFormula_69 : decode cX8_setFormula 69 = .ok (.invokevirtual 152, 3) := by decide +kernel
theorem dX8_setFormula_72 : decode cX8_setFormula 72 = .ok (.ifCond .eq 7, 3) := by decide +kernel
theorem dX8_setFormula_75 : decode cX8_setFormula 75 = .ok (.iconst 3, 1) := by decide +kernel
theorem dX8_setFormula_76 : decode cX8_setFormula 76 = .ok (.goto 4, 3) := by decide +kernel
theorem dX8_setFormula_79 : decode cX8_setFormula 79 = .ok (.iconst 0, 1) := by decide +kernel
theorem dX8_setFormula_80 : decode cX8_setFormula 80 = .ok (.putfield 66, 3) := by decide +kernel
theorem dX8_setFormula_83 : decode cX8_setFormula 83 = .ok (.aload_n 0, 1) := by decide +kernel
theorem dX8_setFormula_84 : decode cX8_setFormula 84 = .ok (.getfield 66, 3) := by decide +kernel
theorem dX8_setFormula_87 : decode cX8_setFormula 87 = .ok (.ifCond .le 5, 3) := by decide +kernel
theorem dX8_setFormula_90 : decode cX8_setFormula 90 = .ok (.iconst 0, 1) := by decide +kernel
theorem dX8_setFormula_91 : decode cX8_setFormula 91 = .ok (.ireturn, 1) := by decide +kernel
theorem dX8_setFormula_92 : decode cX8_setFormula 92 = .ok (.aload_n 0, 1) := by decide +kernel
theorem dX8_setFormula_93 : decode cX8_setFormula 93 = .ok (.getfield 16, 3) := by decide +kernel
theorem dX8_setFormula_96 : decode cX8_setFormula 96 = .ok (.iload_n 1, 1) := by decide +kernel
theorem dX8_setFormula_97 : decode cX8_setFormula 97 = .ok (.aload_n 0, 1) := by decide +kernel
theorem dX8_setFormula_98 : decode cX8_setFormula 98 = .ok (.getfield 99, 3) := by decide +kernel
theorem dX8_setFormula_101 : decode cX8_setFormula 101 = .ok (.iastore, 1) := by decide +kernel
theorem dX8_setFormula_102 : decode cX8_setFormula 102 = .ok (.iconst 0, 1) := by decide +kernel
theorem dX8_setFormula_103 : decode cX8_setFormula 103 = .ok (.istore_n 2, 1) := by decide +kernel
theorem dX8_setFormula_104 : decode cX8_setFormula 104 = .ok (.iload_n 2, 1) := by decide +kernel
theorem dX8_setFormula_105 : decode cX8_setFormula 105 = .ok (.aload_n 0, 1) := by decide +kernel
theorem dX8_setFormula_106 : decode cX8_setFormula 106 = .ok (.getfield 99, 3) := by decide +kernel
theorem dX8_setFormula_109 : decode cX8_setFormula 109 = .ok (.if_icmp .ge 26, 3) := by decide +kernel
theorem dX8_setFormula_112 : decode cX8_setFormula 112 = .ok (.aload_n 0, 1) := by decide +kernel
theorem dX8_setFormula_113 : decode cX8_setFormula 113 = .ok (.getfield 13, 3) := by decide +kernel
theorem dX8_setFormula_116 : decode cX8_setFormula 116 = .ok (.bipush 40, 2) := by decide +kernel
theorem dX8_setFormula_118 : decode cX8_setFormula 118 = .ok (.iload_n 1, 1) := by decide +kernel
theorem dX8_setFormula_119 : decode cX8_setFormula 119 = .ok (.imul, 1) := by decide +kernel
theorem dX8_setFormula_120 : decode cX8_setFormula 120 = .ok (.iload_n 2, 1) := by decide +kernel
theorem dX8_setFormula_121 : decode cX8_setFormula 121 = .ok (.iadd, 1) := by decide +kernel
theorem dX8_setFormula_122 : decode cX8_setFormula 122 = .ok (.aload_n 0, 1) := by decide +kernel
theorem dX8_setFormula_123 : decode cX8_setFormula 123 = .ok (.getfield 44, 3) := by decide +kernel
theorem dX8_setFormula_126 : decode cX8_setFormula 126 = .ok (.iload_n 2, 1) := by decide +kernel
theorem dX8_setFormula_127 : decode cX8_setFormula 127 = .ok (.iaload, 1) := by decide +kernel
theorem dX8_setFormula_128 : decode cX8_setFormula 128 = .ok (.iastore, 1) := by decide +kernel
theorem dX8_setFormula_129 : decode cX8_setFormula 129 = .ok (.iinc 2 1, 3) := by decide +kernel
theorem dX8_setFormula_132 : decode cX8_setFormula 132 = .ok (.goto (-28), 3) := by decide +kernel
theorem dX8_setFormula_135 : decode cX8_setFormula 135 = .ok (.iconst 0, 1) := by decide +kernel
theorem dX8_setFormula_136 : decode cX8_setFormula 136 = .ok (.istore_n 2, 1) := by decide +kernel
theorem dX8_setFormula_137 : decode cX8_setFormula 137 = .ok (.iconst 0, 1) := by decide +kernel
theorem dX8_setFormula_138 : decode cX8_setFormula 138 = .ok (.istore_n 3, 1) := by decide +kernel
theorem dX8_setFormula_139 : decode cX8_setFormula 139 = .ok (.iload_n 3, 1) := by decide +kernel
theorem dX8_setFormula_140 : decode cX8_setFormula 140 = .ok (.bipush 10, 2) := by decide +kernel
theorem dX8_setFormula_142 : decode cX8_setFormula 142 = .ok (.if_icmp .ge 26, 3) := by decide +kernel
theorem dX8_setFormula_145 : decode cX8_setFormula 145 = .ok (.iload_n 2, 1) := by decide +kernel
theorem dX8_setFormula_146 : decode cX8_setFormula 146 = .ok (.aload_n 0, 1) := by decide +kernel
theorem dX8_setFormula_147 : decode cX8_setFormula 147 = .ok (.getfield 16, 3) := by decide +kernel
theorem dX8_setFormula_150 : decode cX8_setFormula 150 = .ok (.iload_n 3, 1) := by decide +kernel
theorem dX8_setFormula_151 : decode cX8_setFormula 151 = .ok (.iaload, 1) := by decide +kernel
theorem dX8_setFormula_152 : decode cX8_setFormula 152 = .ok (.ifCond .le 7, 3) := by decide +kernel
theorem dX8_setFormula_155 : decode cX8_setFormula 155 = .ok (.iconst 1, 1) := by decide +kernel
theorem dX8_setFormula_156 : decode cX8_setFormula 156 = .ok (.goto 4, 3) := by decide +kernel
theorem dX8_setFormula_159 : decode cX8_setFormula 159 = .ok (.iconst 0, 1) := by decide +kernel
theorem dX8_setFormula_160 : decode cX8_setFormula 160 = .ok (.iadd, 1) := by decide +kernel
theorem dX8_setFormula_161 : decode cX8_setFormula 161 = .ok (.istore_n 2, 1) := by decide +kernel
theorem dX8_setFormula_162 : decode cX8_setFormula 162 = .ok (.iinc 3 1, 3) := by decide +kernel
theorem dX8_setFormula_165 : decode cX8_setFormula 165 = .ok (.goto (-26), 3) := by decide +kernel
theorem dX8_setFormula_168 : decode cX8_setFormula 168 = .ok (.iload_n 2, 1) := by decide +kernel
theorem dX8_setFormula_169 : decode cX8_setFormula 169 = .ok (.ireturn, 1) := by decide +kernel
theorem dX8_dropFormula_0 : decode cX8_dropFormula 0 = .ok (.aload_n 0, 1) := by decide +kernel
theorem dX8_dropFormula_1 : decode cX8_dropFormula 1 = .ok (.iload_n 1, 1) := by decide +kernel
theorem dX8_dropFormula_2 : decode cX8_dropFormula 2 = .ok (.invokestatic 149, 3) := by decide +kernel
theorem dX8_dropFormula_5 : decode cX8_dropFormula 5 = .ok (.ifCond .eq 7, 3) := by decide +kernel
theorem dX8_dropFormula_8 : decode cX8_dropFormula 8 = .ok (.iconst 0, 1) := by decide +kernel
theorem dX8_dropFormula_9 : decode cX8_dropFormula 9 = .ok (.goto 4, 3) := by decide +kernel
theorem dX8_dropFormula_12 : decode cX8_dropFormula 12 = .ok (.iconst 1, 1) := by decide +kernel
theorem dX8_dropFormula_13 : decode cX8_dropFormula 13 = .ok (.putfield 66, 3) := by decide +kernel
theorem dX8_dropFormula_16 : decode cX8_dropFormula 16 = .ok (.aload_n 0, 1) := by decide +kernel
theorem dX8_dropFormula_17 : decode cX8_dropFormula 17 = .ok (.getfield 66, 3) := by decide +kernel
theorem dX8_dropFormula_20 : decode cX8_dropFormula 20 = .ok (.ifCond .ne 16, 3) := by decide +kernel
theorem dX8_dropFormula_23 : decode cX8_dropFormula 23 = .ok (.aload_n 0, 1) := by decide +kernel
theorem dX8_dropFormula_24 : decode cX8_dropFormula 24 = .ok (.getfield 16, 3) := by decide +kernel
theorem dX8_dropFormula_27 : decode cX8_dropFormula 27 = .ok (.iload_n 1, 1) := by decide +kernel
theorem dX8_dropFormula_28 : decode cX8_dropFormula 28 = .ok (.iaload, 1) := by decide +kernel
theorem dX8_dropFormula_29 : decode cX8_dropFormula 29 = .ok (.ifCond .le 7, 3) := by decide +kernel
theorem dX8_dropFormula_32 : decode cX8_dropFormula 32 = .ok (.iconst 1, 1) := by decide +kernel
theorem dX8_dropFormula_33 : decode cX8_dropFormula 33 = .ok (.goto 4, 3) := by decide +kernel
theorem dX8_dropFormula_36 : decode cX8_dropFormula 36 = .ok (.iconst 0, 1) := by decide +kernel
theorem dX8_dropFormula_37 : decode cX8_dropFormula 37 = .ok (.istore_n 2, 1) := by decide +kernel
theorem dX8_dropFormula_38 : decode cX8_dropFormula 38 = .ok (.iload_n 2, 1) := by decide +kernel
theorem dX8_dropFormula_39 : decode cX8_dropFormula 39 = .ok (.ifCond .eq 10, 3) := by decide +kernel
theorem dX8_dropFormula_42 : decode cX8_dropFormula 42 = .ok (.aload_n 0, 1) := by decide +kernel
theorem dX8_dropFormula_43 : decode cX8_dropFormula 43 = .ok (.getfield 16, 3) := by decide +kernel
theorem dX8_dropFormula_46 : decode cX8_dropFormula 46 = .ok (.iload_n 1, 1) := by decide +kernel
theorem dX8_dropFormula_47 : decode cX8_dropFormula 47 = .ok (.iconst 0, 1) := by decide +kernel
theorem dX8_dropFormula_48 : decode cX8_dropFormula 48 = .ok (.iastore, 1) := by decide +kernel
theorem dX8_dropFormula_49 : decode cX8_dropFormula 49 = .ok (.iload_n 2, 1) := by decide +kernel
theorem dX8_dropFormula_50 : decode cX8_dropFormula 50 = .ok (.ireturn, 1) := by decide +kernel
theorem dX8_isBroken_0 : decode cX8_isBroken 0 = .ok (.aload_n 0, 1) := by decide +kernel
theorem dX8_isBroken_1 : decode cX8_isBroken 1 = .ok (.iload_n 1, 1) := by decide +kernel
theorem dX8_isBroken_2 : decode cX8_isBroken 2 = .ok (.invokestatic 149, 3) := by decide +kernel
theorem dX8_isBroken_5 : decode cX8_isBroken 5 = .ok (.ifCond .eq 7, 3) := by decide +kernel
theorem dX8_isBroken_8 : decode cX8_isBroken 8 = .ok (.iconst 0, 1) := by decide +kernel
theorem dX8_isBroken_9 : decode cX8_isBroken 9 = .ok (.goto 4, 3) := by decide +kernel
theorem dX8_isBroken_12 : decode cX8_isBroken 12 = .ok (.iconst 1, 1) := by decide +kernel
theorem dX8_isBroken_13 : decode cX8_isBroken 13 = .ok (.putfield 66, 3) := by decide +kernel
theorem dX8_isBroken_16 : decode cX8_isBroken 16 = .ok (.aload_n 0, 1) := by decide +kernel
theorem dX8_isBroken_17 : decode cX8_isBroken 17 = .ok (.getfield 66, 3) := by decide +kernel
theorem dX8_isBroken_20 : decode cX8_isBroken 20 = .ok (.ifCond .ne 15, 3) := by decide +kernel
theorem dX8_isBroken_23 : decode cX8_isBroken 23 = .ok (.aload_n 0, 1) := by decide +kernel
theorem dX8_isBroken_24 : decode cX8_isBroken 24 = .ok (.iload_n 1, 1) := by decide +kernel
theorem dX8_isBroken_25 : decode cX8_isBroken 25 = .ok (.invokevirtual 136, 3) := by decide +kernel
theorem dX8_isBroken_28 : decode cX8_isBroken 28 = .ok (.ifCond .eq 7, 3) := by decide +kernel
theorem dX8_isBroken_31 : decode cX8_isBroken 31 = .ok (.iconst 1, 1) := by decide +kernel
theorem dX8_isBroken_32 : decode cX8_isBroken 32 = .ok (.goto 4, 3) := by decide +kernel
theorem dX8_isBroken_35 : decode cX8_isBroken 35 = .ok (.iconst 0, 1) := by decide +kernel
theorem dX8_isBroken_36 : decode cX8_isBroken 36 = .ok (.ireturn, 1) := by decide +kernel
theorem dX8_areAlike_0 : decode cX8_areAlike 0 = .ok (.aload_n 0, 1) := by decide +kernel
theorem dX8_areAlike_1 : decode cX8_areAlike 1 = .ok (.getfield 16, 3) := by decide +kernel
theorem dX8_areAlike_4 : decode cX8_areAlike 4 = .ok (.iload_n 1, 1) := by decide +kernel
theorem dX8_areAlike_5 : decode cX8_areAlike 5 = .ok (.iaload, 1) := by decide +kernel
theorem dX8_areAlike_6 : decode cX8_areAlike 6 = .ok (.aload_n 0, 1) := by decide +kernel
theorem dX8_areAlike_7 : decode cX8_areAlike 7 = .ok (.getfield 16, 3) := by decide +kernel
theorem dX8_areAlike_10 : decode cX8_areAlike 10 = .ok (.iload_n 2, 1) := by decide +kernel
theorem dX8_areAlike_11 : decode cX8_areAlike 11 = .ok (.iaload, 1) := by decide +kernel
theorem dX8_areAlike_12 : decode cX8_areAlike 12 = .ok (.if_icmp .ne 7, 3) := by decide +kernel
theorem dX8_areAlike_15 : decode cX8_areAlike 15 = .ok (.iconst 1, 1) := by decide +kernel
theorem dX8_areAlike_16 : decode cX8_areAlike 16 = .ok (.goto 4, 3) := by decide +kernel
theorem dX8_areAlike_19 : decode cX8_areAlike 19 = .ok (.iconst 0, 1) := by decide +kernel
theorem dX8_areAlike_20 : decode cX8_areAlike 20 = .ok (.istore_n 3, 1) := by decide +kernel
theorem dX8_areAlike_21 : decode cX8_areAlike 21 = .ok (.iconst 0, 1) := by decide +kernel
theorem dX8_areAlike_22 : decode cX8_areAlike 22 = .ok (.istore 4, 2) := by decide +kernel
theorem dX8_areAlike_24 : decode cX8_areAlike 24 = .ok (.iload 4, 2) := by decide +kernel
theorem dX8_areAlike_26 : decode cX8_areAlike 26 = .ok (.aload_n 0, 1) := by decide +kernel
theorem dX8_areAlike_27 : decode cX8_areAlike 27 = .ok (.getfield 16, 3) := by decide +kernel
theorem dX8_areAlike_30 : decode cX8_areAlike 30 = .ok (.iload_n 1, 1) := by decide +kernel
theorem dX8_areAlike_31 : decode cX8_areAlike 31 = .ok (.iaload, 1) := by decide +kernel
theorem dX8_areAlike_32 : decode cX8_areAlike 32 = .ok (.if_icmp .ge 46, 3) := by decide +kernel
theorem dX8_areAlike_35 : decode cX8_areAlike 35 = .ok (.iload_n 3, 1) := by decide +kernel
theorem dX8_areAlike_36 : decode cX8_areAlike 36 = .ok (.ifCond .eq 42, 3) := by decide +kernel
theorem dX8_areAlike_39 : decode cX8_areAlike 39 = .ok (.aload_n 0, 1) := by decide +kernel
theorem dX8_areAlike_40 : decode cX8_areAlike 40 = .ok (.getfield 13, 3) := by decide +kernel
theorem dX8_areAlike_43 : decode cX8_areAlike 43 = .ok (.bipush 40, 2) := by decide +kernel
theorem dX8_areAlike_45 : decode cX8_areAlike 45 = .ok (.iload_n 1, 1) := by decide +kernel
theorem dX8_areAlike_46 : decode cX8_areAlike 46 = .ok (.imul, 1) := by decide +kernel
theorem dX8_areAlike_47 : decode cX8_areAlike 47 = .ok (.iload 4, 2) := by decide +kernel
theorem dX8_areAlike_49 : decode cX8_areAlike 49 = .ok (.iadd, 1) := by decide +kernel
theorem dX8_areAlike_50 : decode cX8_areAlike 50 = .ok (.iaload, 1) := by decide +kernel
theorem dX8_areAlike_51 : decode cX8_areAlike 51 = .ok (.aload_n 0, 1) := by decide +kernel
theorem dX8_areAlike_52 : decode cX8_areAlike 52 = .ok (.getfield 13, 3) := by decide +kernel
theorem dX8_areAlike_55 : decode cX8_areAlike 55 = .ok (.bipush 40, 2) := by decide +kernel
theorem dX8_areAlike_57 : decode cX8_areAlike 57 = .ok (.iload_n 2, 1) := by decide +kernel
theorem dX8_areAlike_58 : decode cX8_areAlike 58 = .ok (.imul, 1) := by decide +kernel
theorem dX8_areAlike_59 : decode cX8_areAlike 59 = .ok (.iload 4, 2) := by decide +kernel
theorem dX8_areAlike_61 : decode cX8_areAlike 61 = .ok (.iadd, 1) := by decide +kernel
theorem dX8_areAlike_62 : decode cX8_areAlike 62 = .ok (.iaload, 1) := by decide +kernel
theorem dX8_areAlike_63 : decode cX8_areAlike 63 = .ok (.if_icmp .ne 7, 3) := by decide +kernel
theorem dX8_areAlike_66 : decode cX8_areAlike 66 = .ok (.iconst 1, 1) := by decide +kernel
theorem dX8_areAlike_67 : decode cX8_areAlike 67 = .ok (.goto 4, 3) := by decide +kernel
theorem dX8_areAlike_70 : decode cX8_areAlike 70 = .ok (.iconst 0, 1) := by decide +kernel
theorem dX8_areAlike_71 : decode cX8_areAlike 71 = .ok (.istore_n 3, 1) := by decide +kernel
theorem dX8_areAlike_72 : decode cX8_areAlike 72 = .ok (.iinc 4 1, 3) := by decide +kernel
theorem dX8_areAlike_75 : decode cX8_areAlike 75 = .ok (.goto (-51), 3) := by decide +kernel
theorem dX8_areAlike_78 : decode cX8_areAlike 78 = .ok (.iload_n 3, 1) := by decide +kernel
theorem dX8_areAlike_79 : decode cX8_areAlike 79 = .ok (.ireturn, 1) := by decide +kernel
theorem dX8_typeAt_0 : decode cX8_typeAt 0 = .ok (.aload_n 0, 1) := by decide +kernel
theorem dX8_typeAt_1 : decode cX8_typeAt 1 = .ok (.getfield 19, 3) := by decide +kernel
theorem dX8_typeAt_4 : decode cX8_typeAt 4 = .ok (.bipush 6, 2) := by decide +kernel
theorem dX8_typeAt_6 : decode cX8_typeAt 6 = .ok (.iload_n 1, 1) := by decide +kernel
theorem dX8_typeAt_7 : decode cX8_typeAt 7 = .ok (.iconst 1, 1) := by decide +kernel
theorem dX8_typeAt_8 : decode cX8_typeAt 8 = .ok (.iadd, 1) := by decide +kernel
theorem dX8_typeAt_9 : decode cX8_typeAt 9 = .ok (.imul, 1) := by decide +kernel
theorem dX8_typeAt_10 : decode cX8_typeAt 10 = .ok (.iload_n 2, 1) := by decide +kernel
theorem dX8_typeAt_11 : decode cX8_typeAt 11 = .ok (.iadd, 1) := by decide +kernel
theorem dX8_typeAt_12 : decode cX8_typeAt 12 = .ok (.iaload, 1) := by decide +kernel
theorem dX8_typeAt_13 : decode cX8_typeAt 13 = .ok (.ireturn, 1) := by decide +kernel
theorem dX8_doubtFor_0 : decode cX8_doubtFor 0 = .ok (.aload_n 0, 1) := by decide +kernel
theorem dX8_doubtFor_1 : decode cX8_doubtFor 1 = .ok (.getfield 25, 3) := by decide +kernel
theorem dX8_doubtFor_4 : decode cX8_doubtFor 4 = .ok (.iload_n 1, 1) := by decide +kernel
theorem dX8_doubtFor_5 : decode cX8_doubtFor 5 = .ok (.iaload, 1) := by decide +kernel
theorem dX8_doubtFor_6 : decode cX8_doubtFor 6 = .ok (.istore_n 3, 1) := by decide +kernel
theorem dX8_doubtFor_7 : decode cX8_doubtFor 7 = .ok (.iconst 0, 1) := by decide +kernel
theorem dX8_doubtFor_8 : decode cX8_doubtFor 8 = .ok (.istore 4, 2) := by decide +kernel
theorem dX8_doubtFor_10 : decode cX8_doubtFor 10 = .ok (.iload 4, 2) := by decide +kernel
theorem dX8_doubtFor_12 : decode cX8_doubtFor 12 = .ok (.bipush 6, 2) := by decide +kernel
theorem dX8_doubtFor_14 : decode cX8_doubtFor 14 = .ok (.if_icmp .ge 135, 3) := by decide +kernel
theorem dX8_doubtFor_17 : decode cX8_doubtFor 17 = .ok (.aload_n 0, 1) := by decide +kernel
theorem dX8_doubtFor_18 : decode cX8_doubtFor 18 = .ok (.iload_n 3, 1) := by decide +kernel
theorem dX8_doubtFor_19 : decode cX8_doubtFor 19 = .ok (.iload 4, 2) := by decide +kernel
theorem dX8_doubtFor_21 : decode cX8_doubtFor 21 = .ok (.invokevirtual 155, 3) := by decide +kernel
theorem dX8_doubtFor_24 : decode cX8_doubtFor 24 = .ok (.istore 5, 2) := by decide +kernel
theorem dX8_doubtFor_26 : decode cX8_doubtFor 26 = .ok (.iload 5, 2) := by decide +kernel
theorem dX8_doubtFor_28 : decode cX8_doubtFor 28 = .ok (.ifCond .eq 19, 3) := by decide +kernel
theorem dX8_doubtFor_31 : decode cX8_doubtFor 31 = .ok (.iload 5, 2) := by decide +kernel
theorem dX8_doubtFor_33 : decode cX8_doubtFor 33 = .ok (.aload_n 0, 1) := by decide +kernel
theorem dX8_doubtFor_34 : decode cX8_doubtFor 34 = .ok (.getfield 19, 3) := by decide +kernel
theorem dX8_doubtFor_37 : decode cX8_doubtFor 37 = .ok (.iload 4, 2) := by decide +kernel
theorem dX8_doubtFor_39 : decode cX8_doubtFor 39 = .ok (.iaload, 1) := by decide +kernel
theorem dX8_doubtFor_40 : decode cX8_doubtFor 40 = .ok (.if_icmp .eq 7, 3) := by decide +kernel
theorem dX8_doubtFor_43 : decode cX8_doubtFor 43 = .ok (.iconst 1, 1) := by decide +kernel
theorem dX8_doubtFor_44 : decode cX8_doubtFor 44 = .ok (.goto 4, 3) := by decide +kernel
theorem dX8_doubtFor_47 : decode cX8_doubtFor 47 = .ok (.iconst 0, 1) := by decide +kernel
theorem dX8_doubtFor_48 : decode cX8_doubtFor 48 = .ok (.istore 6, 2) := by decide +kernel
theorem dX8_doubtFor_50 : decode cX8_doubtFor 50 = .ok (.iconst 0, 1) := by decide +kernel
theorem dX8_doubtFor_51 : decode cX8_doubtFor 51 = .ok (.istore 7, 2) := by decide +kernel
theorem dX8_doubtFor_53 : decode cX8_doubtFor 53 = .ok (.iload 7, 2) := by decide +kernel
theorem dX8_doubtFor_55 : decode cX8_doubtFor 55 = .ok (.bipush 10, 2) := by decide +kernel
theorem dX8_doubtFor_57 : decode cX8_doubtFor 57 = .ok (.if_icmp .ge 64, 3) := by decide +kernel
theorem dX8_doubtFor_60 : decode cX8_doubtFor 60 = .ok (.bipush 10, 2) := by decide +kernel
theorem dX8_doubtFor_62 : decode cX8_doubtFor 62 = .ok (.iload_n 3, 1) := by decide +kernel
theorem dX8_doubtFor_63 : decode cX8_doubtFor 63 = .ok (.iconst 1, 1) := by decide +kernel
theorem dX8_doubtFor_64 : decode cX8_doubtFor 64 = .ok (.iadd, 1) := by decide +kernel
theorem dX8_doubtFor_65 : decode cX8_doubtFor 65 = .ok (.imul, 1) := by decide +kernel
theorem dX8_doubtFor_66 : decode cX8_doubtFor 66 = .ok (.iload 7, 2) := by decide +kernel
theorem dX8_doubtFor_68 : decode cX8_doubtFor 68 = .ok (.iadd, 1) := by decide +kernel
theorem dX8_doubtFor_69 : decode cX8_doubtFor 69 = .ok (.istore 8, 2) := by decide +kernel
theorem dX8_doubtFor_71 : decode cX8_doubtFor 71 = .ok (.iload 6, 2) := by decide +kernel
theorem dX8_doubtFor_73 : decode cX8_doubtFor 73 = .ok (.ifCond .ne 35, 3) := by decide +kernel
theorem dX8_doubtFor_76 : decode cX8_doubtFor 76 = .ok (.iload_n 2, 1) := by decide +kernel
theorem dX8_doubtFor_77 : decode cX8_doubtFor 77 = .ok (.iload 7, 2) := by decide +kernel
theorem dX8_doubtFor_79 : decode cX8_doubtFor 79 = .ok (.ishr, 1) := by decide +kernel
theorem dX8_doubtFor_80 : decode cX8_doubtFor 80 = .ok (.iconst 1, 1) := by decide +kernel
theorem dX8_doubtFor_81 : decode cX8_doubtFor 81 = .ok (.iand, 1) := by decide +kernel
theorem dX8_doubtFor_82 : decode cX8_doubtFor 82 = .ok (.iconst 1, 1) := by decide +kernel
theorem dX8_doubtFor_83 : decode cX8_doubtFor 83 = .ok (.if_icmp .ne 29, 3) := by decide +kernel
theorem dX8_doubtFor_86 : decode cX8_doubtFor 86 = .ok (.aload_n 0, 1) := by decide +kernel
theorem dX8_doubtFor_87 : decode cX8_doubtFor 87 = .ok (.iload 8, 2) := by decide +kernel
theorem dX8_doubtFor_89 : decode cX8_doubtFor 89 = .ok (.iload 7, 2) := by decide +kernel
theorem dX8_doubtFor_91 : decode cX8_doubtFor 91 = .ok (.invokevirtual 159, 3) := by decide +kernel
theorem dX8_doubtFor_94 : decode cX8_doubtFor 94 = .ok (.ifCond .eq 18, 3) := by decide +kernel
theorem dX8_doubtFor_97 : decode cX8_doubtFor 97 = .ok (.aload_n 0, 1) := by decide +kernel
theorem dX8_doubtFor_98 : decode cX8_doubtFor 98 = .ok (.iload 8, 2) := by decide +kernel
theorem dX8_doubtFor_100 : decode cX8_doubtFor 100 = .ok (.iload 4, 2) := by decide +kernel
theorem dX8_doubtFor_102 : decode cX8_doubtFor 102 = .ok (.invokevirtual 145, 3) := by decide +kernel
theorem dX8_doubtFor_105 : decode cX8_doubtFor 105 = .ok (.ifCond .eq 7, 3) := by decide +kernel
theorem dX8_doubtFor_108 : decode cX8_doubtFor 108 = .ok (.iconst 1, 1) := by decide +kernel
theorem dX8_doubtFor_109 : decode cX8_doubtFor 109 = .ok (.goto 4, 3) := by decide +kernel
theorem dX8_doubtFor_112 : decode cX8_doubtFor 112 = .ok (.iconst 0, 1) := by decide +kernel
theorem dX8_doubtFor_113 : decode cX8_doubtFor 113 = .ok (.istore 6, 2) := by decide +kernel
theorem dX8_doubtFor_115 : decode cX8_doubtFor 115 = .ok (.iinc 7 1, 3) := by decide +kernel
theorem dX8_doubtFor_118 : decode cX8_doubtFor 118 = .ok (.goto (-65), 3) := by decide +kernel
theorem dX8_doubtFor_121 : decode cX8_doubtFor 121 = .ok (.aload_n 0, 1) := by decide +kernel
theorem dX8_doubtFor_122 : decode cX8_doubtFor 122 = .ok (.getfield 35, 3) := by decide +kernel
theorem dX8_doubtFor_125 : decode cX8_doubtFor 125 = .ok (.iload_n 1, 1) := by decide +kernel
theorem dX8_doubtFor_126 : decode cX8_doubtFor 126 = .ok (.dup2, 1) := by decide +kernel
theorem dX8_doubtFor_127 : decode cX8_doubtFor 127 = .ok (.iaload, 1) := by decide +kernel
theorem dX8_doubtFor_128 : decode cX8_doubtFor 128 = .ok (.iload 6, 2) := by decide +kernel
theorem dX8_doubtFor_130 : decode cX8_doubtFor 130 = .ok (.ifCond .eq 10, 3) := by decide +kernel
theorem dX8_doubtFor_133 : decode cX8_doubtFor 133 = .ok (.iconst 1, 1) := by decide +kernel
theorem dX8_doubtFor_134 : decode cX8_doubtFor 134 = .ok (.iload 4, 2) := by decide +kernel
theorem dX8_doubtFor_136 : decode cX8_doubtFor 136 = .ok (.ishl, 1) := by decide +kernel
theorem dX8_doubtFor_137 : decode cX8_doubtFor 137 = .ok (.goto 4, 3) := by decide +kernel
theorem dX8_doubtFor_140 : decode cX8_doubtFor 140 = .ok (.iconst 0, 1) := by decide +kernel
theorem dX8_doubtFor_141 : decode cX8_doubtFor 141 = .ok (.ior, 1) := by decide +kernel
theorem dX8_doubtFor_142 : decode cX8_doubtFor 142 = .ok (.iastore, 1) := by decide +kernel
theorem dX8_doubtFor_143 : decode cX8_doubtFor 143 = .ok (.iinc 4 1, 3) := by decide +kernel
theorem dX8_doubtFor_146 : decode cX8_doubtFor 146 = .ok (.goto (-136), 3) := by decide +kernel
theorem dX8_doubtFor_149 : decode cX8_doubtFor 149 = .ok (.aload_n 0, 1) := by decide +kernel
theorem dX8_doubtFor_150 : decode cX8_doubtFor 150 = .ok (.getfield 22, 3) := by decide +kernel
theorem dX8_doubtFor_153 : decode cX8_doubtFor 153 = .ok (.iload_n 1, 1) := by decide +kernel
theorem dX8_doubtFor_154 : decode cX8_doubtFor 154 = .ok (.aload_n 0, 1) := by decide +kernel
theorem dX8_doubtFor_155 : decode cX8_doubtFor 155 = .ok (.getfield 35, 3) := by decide +kernel
theorem dX8_doubtFor_158 : decode cX8_doubtFor 158 = .ok (.iload_n 1, 1) := by decide +kernel
theorem dX8_doubtFor_159 : decode cX8_doubtFor 159 = .ok (.iaload, 1) := by decide +kernel
theorem dX8_doubtFor_160 : decode cX8_doubtFor 160 = .ok (.ifCond .le 7, 3) := by decide +kernel
theorem dX8_doubtFor_163 : decode cX8_doubtFor 163 = .ok (.iconst 3, 1) := by decide +kernel
theorem dX8_doubtFor_164 : decode cX8_doubtFor 164 = .ok (.goto 9, 3) := by decide +kernel
theorem dX8_doubtFor_167 : decode cX8_doubtFor 167 = .ok (.aload_n 0, 1) := by decide +kernel
theorem dX8_doubtFor_168 : decode cX8_doubtFor 168 = .ok (.getfield 22, 3) := by decide +kernel
theorem dX8_doubtFor_171 : decode cX8_doubtFor 171 = .ok (.iload_n 1, 1) := by decide +kernel
theorem dX8_doubtFor_172 : decode cX8_doubtFor 172 = .ok (.iaload, 1) := by decide +kernel
theorem dX8_doubtFor_173 : decode cX8_doubtFor 173 = .ok (.iastore, 1) := by decide +kernel
theorem dX8_doubtFor_174 : decode cX8_doubtFor 174 = .ok (.return_, 1) := by decide +kernel
theorem dX8_publish_0 : decode cX8_publish 0 = .ok (.aload_n 0, 1) := by decide +kernel
theorem dX8_publish_1 : decode cX8_publish 1 = .ok (.aload_n 0, 1) := by decide +kernel
theorem dX8_publish_2 : decode cX8_publish 2 = .ok (.getfield 162, 3) := by decide +kernel
theorem dX8_publish_5 : decode cX8_publish 5 = .ok (.bipush 10, 2) := by decide +kernel
theorem dX8_publish_7 : decode cX8_publish 7 = .ok (.if_icmp .ne 7, 3) := by decide +kernel
theorem dX8_publish_10 : decode cX8_publish 10 = .ok (.iconst 1, 1) := by decide +kernel
theorem dX8_publish_11 : decode cX8_publish 11 = .ok (.goto 4, 3) := by decide +kernel
theorem dX8_publish_14 : decode cX8_publish 14 = .ok (.iconst 0, 1) := by decide +kernel
theorem dX8_publish_15 : decode cX8_publish 15 = .ok (.putfield 66, 3) := by decide +kernel
theorem dX8_publish_18 : decode cX8_publish 18 = .ok (.aload_n 0, 1) := by decide +kernel
theorem dX8_publish_19 : decode cX8_publish 19 = .ok (.getfield 66, 3) := by decide +kernel
theorem dX8_publish_22 : decode cX8_publish 22 = .ok (.ifCond .le 5, 3) := by decide +kernel
theorem dX8_publish_25 : decode cX8_publish 25 = .ok (.iconst 0, 1) := by decide +kernel
theorem dX8_publish_26 : decode cX8_publish 26 = .ok (.ireturn, 1) := by decide +kernel
theorem dX8_publish_27 : decode cX8_publish 27 = .ok (.iconst 0, 1) := by decide +kernel
theorem dX8_publish_28 : decode cX8_publish 28 = .ok (.istore_n 1, 1) := by decide +kernel
theorem dX8_publish_29 : decode cX8_publish 29 = .ok (.iconst 0, 1) := by decide +kernel
theorem dX8_publish_30 : decode cX8_publish 30 = .ok (.istore_n 2, 1) := by decide +kernel
theorem dX8_publish_31 : decode cX8_publish 31 = .ok (.iload_n 2, 1) := by decide +kernel
theorem dX8_publish_32 : decode cX8_publish 32 = .ok (.bipush 10, 2) := by decide +kernel
theorem dX8_publish_34 : decode cX8_publish 34 = .ok (.if_icmp .ge 27, 3) := by decide +kernel
theorem dX8_publish_37 : decode cX8_publish 37 = .ok (.iload_n 1, 1) := by decide +kernel
theorem dX8_publish_38 : decode cX8_publish 38 = .ok (.aload_n 0, 1) := by decide +kernel
theorem dX8_publish_39 : decode cX8_publish 39 = .ok (.iload_n 2, 1) := by decide +kernel
theorem dX8_publish_40 : decode cX8_publish 40 = .ok (.invokevirtual 136, 3) := by decide +kernel
theorem dX8_publish_43 : decode cX8_publish 43 = .ok (.ifCond .eq 9, 3) := by decide +kernel
theorem dX8_publish_46 : decode cX8_publish 46 = .ok (.iconst 1, 1) := by decide +kernel
theorem dX8_publish_47 : decode cX8_publish 47 = .ok (.iload_n 2, 1) := by decide +kernel
theorem dX8_publish_48 : decode cX8_publish 48 = .ok (.ishl, 1) := by decide +kernel
theorem dX8_publish_49 : decode cX8_publish 49 = .ok (.goto 4, 3) := by decide +kernel
theorem dX8_publish_52 : decode cX8_publish 52 = .ok (.iconst 0, 1) := by decide +kernel
theorem dX8_publish_53 : decode cX8_publish 53 = .ok (.ior, 1) := by decide +kernel
theorem dX8_publish_54 : decode cX8_publish 54 = .ok (.istore_n 1, 1) := by decide +kernel
theorem dX8_publish_55 : decode cX8_publish 55 = .ok (.iinc 2 1, 3) := by decide +kernel
theorem dX8_publish_58 : decode cX8_publish 58 = .ok (.goto (-27), 3) := by decide +kernel
theorem dX8_publish_61 : decode cX8_publish 61 = .ok (.iconst 0, 1) := by decide +kernel
theorem dX8_publish_62 : decode cX8_publish 62 = .ok (.istore_n 2, 1) := by decide +kernel
theorem dX8_publish_63 : decode cX8_publish 63 = .ok (.iload_n 2, 1) := by decide +kernel
theorem dX8_publish_64 : decode cX8_publish 64 = .ok (.aload_n 0, 1) := by decide +kernel
theorem dX8_publish_65 : decode cX8_publish 65 = .ok (.getfield 165, 3) := by decide +kernel
theorem dX8_publish_68 : decode cX8_publish 68 = .ok (.if_icmp .ge 35, 3) := by decide +kernel
theorem dX8_publish_71 : decode cX8_publish 71 = .ok (.aload_n 0, 1) := by decide +kernel
theorem dX8_publish_72 : decode cX8_publish 72 = .ok (.getfield 22, 3) := by decide +kernel
theorem dX8_publish_75 : decode cX8_publish 75 = .ok (.iload_n 2, 1) := by decide +kernel
theorem dX8_publish_76 : decode cX8_publish 76 = .ok (.iaload, 1) := by decide +kernel
theorem dX8_publish_77 : decode cX8_publish 77 = .ok (.iconst 1, 1) := by decide +kernel
theorem dX8_publish_78 : decode cX8_publish 78 = .ok (.if_icmp .eq 13, 3) := by decide +kernel
theorem dX8_publish_81 : decode cX8_publish 81 = .ok (.aload_n 0, 1) := by decide +kernel
theorem dX8_publish_82 : decode cX8_publish 82 = .ok (.getfield 22, 3) := by decide +kernel
theorem dX8_publish_85 : decode cX8_publish 85 = .ok (.iload_n 2, 1) := by decide +kernel
theorem dX8_publish_86 : decode cX8_publish 86 = .ok (.iaload, 1) := by decide +kernel
theorem dX8_publish_87 : decode cX8_publish 87 = .ok (.iconst 3, 1) := by decide +kernel
theorem dX8_publish_88 : decode cX8_publish 88 = .ok (.if_icmp .ne 9, 3) := by decide +kernel
theorem dX8_publish_91 : decode cX8_publish 91 = .ok (.aload_n 0, 1) := by decide +kernel
theorem dX8_publish_92 : decode cX8_publish 92 = .ok (.iload_n 2, 1) := by decide +kernel
theorem dX8_publish_93 : decode cX8_publish 93 = .ok (.iload_n 1, 1) := by decide +kernel
theorem dX8_publish_94 : decode cX8_publish 94 = .ok (.invokevirtual 168, 3) := by decide +kernel
theorem dX8_publish_97 : decode cX8_publish 97 = .ok (.iinc 2 1, 3) := by decide +kernel
theorem dX8_publish_100 : decode cX8_publish 100 = .ok (.goto (-37), 3) := by decide +kernel
theorem dX8_publish_103 : decode cX8_publish 103 = .ok (.aload_n 0, 1) := by decide +kernel
theorem dX8_publish_104 : decode cX8_publish 104 = .ok (.getfield 162, 3) := by decide +kernel
theorem dX8_publish_107 : decode cX8_publish 107 = .ok (.istore_n 2, 1) := by decide +kernel
theorem dX8_publish_108 : decode cX8_publish 108 = .ok (.aload_n 0, 1) := by decide +kernel
theorem dX8_publish_109 : decode cX8_publish 109 = .ok (.dup, 1) := by decide +kernel
theorem dX8_publish_110 : decode cX8_publish 110 = .ok (.getfield 162, 3) := by decide +kernel
theorem dX8_publish_113 : decode cX8_publish 113 = .ok (.iconst 1, 1) := by decide +kernel
theorem dX8_publish_114 : decode cX8_publish 114 = .ok (.iadd, 1) := by decide +kernel
theorem dX8_publish_115 : decode cX8_publish 115 = .ok (.putfield 162, 3) := by decide +kernel
theorem dX8_publish_118 : decode cX8_publish 118 = .ok (.iconst 0, 1) := by decide +kernel
theorem dX8_publish_119 : decode cX8_publish 119 = .ok (.istore_n 3, 1) := by decide +kernel
theorem dX8_publish_120 : decode cX8_publish 120 = .ok (.iload_n 3, 1) := by decide +kernel
theorem dX8_publish_121 : decode cX8_publish 121 = .ok (.bipush 6, 2) := by decide +kernel
theorem dX8_publish_123 : decode cX8_publish 123 = .ok (.if_icmp .ge 28, 3) := by decide +kernel
theorem dX8_publish_126 : decode cX8_publish 126 = .ok (.aload_n 0, 1) := by decide +kernel
theorem dX8_publish_127 : decode cX8_publish 127 = .ok (.getfield 19, 3) := by decide +kernel
theorem dX8_publish_130 : decode cX8_publish 130 = .ok (.bipush 6, 2) := by decide +kernel
theorem dX8_publish_132 : decode cX8_publish 132 = .ok (.iload_n 2, 1) := by decide +kernel
theorem dX8_publish_133 : decode cX8_publish 133 = .ok (.iconst 1, 1) := by decide +kernel
theorem dX8_publish_134 : decode cX8_publish 134 = .ok (.iadd, 1) := by decide +kernel
theorem dX8_publish_135 : decode cX8_publish 135 = .ok (.imul, 1) := by decide +kernel
theorem dX8_publish_136 : decode cX8_publish 136 = .ok (.iload_n 3, 1) := by decide +kernel
theorem dX8_publish_137 : decode cX8_publish 137 = .ok (.iadd, 1) := by decide +kernel
theorem dX8_publish_138 : decode cX8_publish 138 = .ok (.aload_n 0, 1) := by decide +kernel
theorem dX8_publish_139 : decode cX8_publish 139 = .ok (.getfield 19, 3) := by decide +kernel
theorem dX8_publish_142 : decode cX8_publish 142 = .ok (.iload_n 3, 1) := by decide +kernel
theorem dX8_publish_143 : decode cX8_publish 143 = .ok (.iaload, 1) := by decide +kernel
theorem dX8_publish_144 : decode cX8_publish 144 = .ok (.iastore, 1) := by decide +kernel
theorem dX8_publish_145 : decode cX8_publish 145 = .ok (.iinc 3 1, 3) := by decide +kernel
theorem dX8_publish_148 : decode cX8_publish 148 = .ok (.goto (-28), 3) := by decide +kernel
theorem dX8_publish_151 : decode cX8_publish 151 = .ok (.iconst 0, 1) := by decide +kernel
theorem dX8_publish_152 : decode cX8_publish 152 = .ok (.istore_n 3, 1) := by decide +kernel
theorem dX8_publish_153 : decode cX8_publish 153 = .ok (.iload_n 3, 1) := by decide +kernel
theorem dX8_publish_154 : decode cX8_publish 154 = .ok (.bipush 10, 2) := by decide +kernel
theorem dX8_publish_156 : decode cX8_publish 156 = .ok (.if_icmp .ge 103, 3) := by decide +kernel
theorem dX8_publish_159 : decode cX8_publish 159 = .ok (.bipush 10, 2) := by decide +kernel
theorem dX8_publish_161 : decode cX8_publish 161 = .ok (.iload_n 2, 1) := by decide +kernel
theorem dX8_publish_162 : decode cX8_publish 162 = .ok (.iconst 1, 1) := by decide +kernel
theorem dX8_publish_163 : decode cX8_publish 163 = .ok (.iadd, 1) := by decide +kernel
theorem dX8_publish_164 : decode cX8_publish 164 = .ok (.imul, 1) := by decide +kernel
theorem dX8_publish_165 : decode cX8_publish 165 = .ok (.iload_n 3, 1) := by decide +kernel
theorem dX8_publish_166 : decode cX8_publish 166 = .ok (.iadd, 1) := by decide +kernel
theorem dX8_publish_167 : decode cX8_publish 167 = .ok (.istore 4, 2) := by decide +kernel
theorem dX8_publish_169 : decode cX8_publish 169 = .ok (.aload_n 0, 1) := by decide +kernel
theorem dX8_publish_170 : decode cX8_publish 170 = .ok (.getfield 16, 3) := by decide +kernel
theorem dX8_publish_173 : decode cX8_publish 173 = .ok (.iload_n 3, 1) := by decide +kernel
theorem dX8_publish_174 : decode cX8_publish 174 = .ok (.iload_n 1, 1) := by decide +kernel
theorem dX8_publish_175 : decode cX8_publish 175 = .ok (.iload_n 3, 1) := by decide +kernel
theorem dX8_publish_176 : decode cX8_publish 176 = .ok (.ishr, 1) := by decide +kernel
theorem dX8_publish_177 : decode cX8_publish 177 = .ok (.iconst 1, 1) := by decide +kernel
theorem dX8_publish_178 : decode cX8_publish 178 = .ok (.iand, 1) := by decide +kernel
theorem dX8_publish_179 : decode cX8_publish 179 = .ok (.iconst 1, 1) := by decide +kernel
theorem dX8_publish_180 : decode cX8_publish 180 = .ok (.if_icmp .ne 7, 3) := by decide +kernel
theorem dX8_publish_183 : decode cX8_publish 183 = .ok (.iconst 0, 1) := by decide +kernel
theorem dX8_publish_184 : decode cX8_publish 184 = .ok (.goto 9, 3) := by decide +kernel
theorem dX8_publish_187 : decode cX8_publish 187 = .ok (.aload_n 0, 1) := by decide +kernel
theorem dX8_publish_188 : decode cX8_publish 188 = .ok (.getfield 16, 3) := by decide +kernel
theorem dX8_publish_191 : decode cX8_publish 191 = .ok (.iload_n 3, 1) := by decide +kernel
theorem dX8_publish_192 : decode cX8_publish 192 = .ok (.iaload, 1) := by decide +kernel
theorem dX8_publish_193 : decode cX8_publish 193 = .ok (.iastore, 1) := by decide +kernel
theorem dX8_publish_194 : decode cX8_publish 194 = .ok (.aload_n 0, 1) := by decide +kernel
theorem dX8_publish_195 : decode cX8_publish 195 = .ok (.getfield 16, 3) := by decide +kernel
theorem dX8_publish_198 : decode cX8_publish 198 = .ok (.iload 4, 2) := by decide +kernel
theorem dX8_publish_200 : decode cX8_publish 200 = .ok (.aload_n 0, 1) := by decide +kernel
theorem dX8_publish_201 : decode cX8_publish 201 = .ok (.getfield 16, 3) := by decide +kernel
theorem dX8_publish_204 : decode cX8_publish 204 = .ok (.iload_n 3, 1) := by decide +kernel
theorem dX8_publish_205 : decode cX8_publish 205 = .ok (.iaload, 1) := by decide +kernel
theorem dX8_publish_206 : decode cX8_publish 206 = .ok (.iastore, 1) := by decide +kernel
theorem dX8_publish_207 : decode cX8_publish 207 = .ok (.iconst 0, 1) := by decide +kernel
theorem dX8_publish_208 : decode cX8_publish 208 = .ok (.istore 5, 2) := by decide +kernel
theorem dX8_publish_210 : decode cX8_publish 210 = .ok (.iload 5, 2) := by decide +kernel
theorem dX8_publish_212 : decode cX8_publish 212 = .ok (.aload_n 0, 1) := by decide +kernel
theorem dX8_publish_213 : decode cX8_publish 213 = .ok (.getfield 16, 3) := by decide +kernel
theorem dX8_publish_216 : decode cX8_publish 216 = .ok (.iload 4, 2) := by decide +kernel
theorem dX8_publish_218 : decode cX8_publish 218 = .ok (.iaload, 1) := by decide +kernel
theorem dX8_publish_219 : decode cX8_publish 219 = .ok (.if_icmp .ge 34, 3) := by decide +kernel
theorem dX8_publish_222 : decode cX8_publish 222 = .ok (.aload_n 0, 1) := by decide +kernel
theorem dX8_publish_223 : decode cX8_publish 223 = .ok (.getfield 13, 3) := by decide +kernel
theorem dX8_publish_226 : decode cX8_publish 226 = .ok (.bipush 40, 2) := by decide +kernel
theorem dX8_publish_228 : decode cX8_publish 228 = .ok (.iload 4, 2) := by decide +kernel
theorem dX8_publish_230 : decode cX8_publish 230 = .ok (.imul, 1) := by decide +kernel
theorem dX8_publish_231 : decode cX8_publish 231 = .ok (.iload 5, 2) := by decide +kernel
theorem dX8_publish_233 : decode cX8_publish 233 = .ok (.iadd, 1) := by decide +kernel
theorem dX8_publish_234 : decode cX8_publish 234 = .ok (.aload_n 0, 1) := by decide +kernel
theorem dX8_publish_235 : decode cX8_publish 235 = .ok (.getfield 13, 3) := by decide +kernel
theorem dX8_publish_238 : decode cX8_publish 238 = .ok (.bipush 40, 2) := by decide +kernel
theorem dX8_publish_240 : decode cX8_publish 240 = .ok (.iload_n 3, 1) := by decide +kernel
theorem dX8_publish_241 : decode cX8_publish 241 = .ok (.imul, 1) := by decide +kernel
theorem dX8_publish_242 : decode cX8_publish 242 = .ok (.iload 5, 2) := by decide +kernel
theorem dX8_publish_244 : decode cX8_publish 244 = .ok (.iadd, 1) := by decide +kernel
theorem dX8_publish_245 : decode cX8_publish 245 = .ok (.iaload, 1) := by decide +kernel
theorem dX8_publish_246 : decode cX8_publish 246 = .ok (.iastore, 1) := by decide +kernel
theorem dX8_publish_247 : decode cX8_publish 247 = .ok (.iinc 5 1, 3) := by decide +kernel
theorem dX8_publish_250 : decode cX8_publish 250 = .ok (.goto (-40), 3) := by decide +kernel
theorem dX8_publish_253 : decode cX8_publish 253 = .ok (.iinc 3 1, 3) := by decide +kernel
theorem dX8_publish_256 : decode cX8_publish 256 = .ok (.goto (-103), 3) := by decide +kernel
theorem dX8_publish_259 : decode cX8_publish 259 = .ok (.iload_n 2, 1) := by decide +kernel
theorem dX8_publish_260 : decode cX8_publish 260 = .ok (.ireturn, 1) := by decide +kernel
theorem dX8_isVersion_0 : decode cX8_isVersion 0 = .ok (.iload_n 1, 1) := by decide +kernel
theorem dX8_isVersion_1 : decode cX8_isVersion 1 = .ok (.iconst 0, 1) := by decide +kernel
theorem dX8_isVersion_2 : decode cX8_isVersion 2 = .ok (.aload_n 0, 1) := by decide +kernel
theorem dX8_isVersion_3 : decode cX8_isVersion 3 = .ok (.getfield 162, 3) := by decide +kernel
theorem dX8_isVersion_6 : decode cX8_isVersion 6 = .ok (.iconst 1, 1) := by decide +kernel
theorem dX8_isVersion_7 : decode cX8_isVersion 7 = .ok (.isub, 1) := by decide +kernel
theorem dX8_isVersion_8 : decode cX8_isVersion 8 = .ok (.invokestatic 69, 3) := by decide +kernel
theorem dX8_isVersion_11 : decode cX8_isVersion 11 = .ok (.ireturn, 1) := by decide +kernel
theorem dX8_versions_0 : decode cX8_versions 0 = .ok (.aload_n 0, 1) := by decide +kernel
theorem dX8_versions_1 : decode cX8_versions 1 = .ok (.iconst 0, 1) := by decide +kernel
theorem dX8_versions_2 : decode cX8_versions 2 = .ok (.putfield 66, 3) := by decide +kernel
theorem dX8_versions_5 : decode cX8_versions 5 = .ok (.aload_n 0, 1) := by decide +kernel
theorem dX8_versions_6 : decode cX8_versions 6 = .ok (.getfield 162, 3) := by decide +kernel
theorem dX8_versions_9 : decode cX8_versions 9 = .ok (.ireturn, 1) := by decide +kernel
theorem dX8_typeIn_0 : decode cX8_typeIn 0 = .ok (.aload_n 0, 1) := by decide +kernel
theorem dX8_typeIn_1 : decode cX8_typeIn 1 = .ok (.aload_n 0, 1) := by decide +kernel
theorem dX8_typeIn_2 : decode cX8_typeIn 2 = .ok (.iload_n 1, 1) := by decide +kernel
theorem dX8_typeIn_3 : decode cX8_typeIn 3 = .ok (.invokevirtual 172, 3) := by decide +kernel
theorem dX8_typeIn_6 : decode cX8_typeIn 6 = .ok (.ifCond .eq 14, 3) := by decide +kernel
theorem dX8_typeIn_9 : decode cX8_typeIn 9 = .ok (.iload_n 2, 1) := by decide +kernel
theorem dX8_typeIn_10 : decode cX8_typeIn 10 = .ok (.invokestatic 139, 3) := by decide +kernel
theorem dX8_typeIn_13 : decode cX8_typeIn 13 = .ok (.ifCond .eq 7, 3) := by decide +kernel
theorem dX8_typeIn_16 : decode cX8_typeIn 16 = .ok (.iconst 0, 1) := by decide +kernel
theorem dX8_typeIn_17 : decode cX8_typeIn 17 = .ok (.goto 4, 3) := by decide +kernel
theorem dX8_typeIn_20 : decode cX8_typeIn 20 = .ok (.iconst 1, 1) := by decide +kernel
theorem dX8_typeIn_21 : decode cX8_typeIn 21 = .ok (.putfield 66, 3) := by decide +kernel
theorem dX8_typeIn_24 : decode cX8_typeIn 24 = .ok (.aload_n 0, 1) := by decide +kernel
theorem dX8_typeIn_25 : decode cX8_typeIn 25 = .ok (.getfield 66, 3) := by decide +kernel
theorem dX8_typeIn_28 : decode cX8_typeIn 28 = .ok (.ifCond .ne 12, 3) := by decide +kernel
theorem dX8_typeIn_31 : decode cX8_typeIn 31 = .ok (.aload_n 0, 1) := by decide +kernel
theorem dX8_typeIn_32 : decode cX8_typeIn 32 = .ok (.iload_n 1, 1) := by decide +kernel
theorem dX8_typeIn_33 : decode cX8_typeIn 33 = .ok (.iload_n 2, 1) := by decide +kernel
theorem dX8_typeIn_34 : decode cX8_typeIn 34 = .ok (.invokevirtual 155, 3) := by decide +kernel
theorem dX8_typeIn_37 : decode cX8_typeIn 37 = .ok (.goto 4, 3) := by decide +kernel
theorem dX8_typeIn_40 : decode cX8_typeIn 40 = .ok (.iconst 0, 1) := by decide +kernel
theorem dX8_typeIn_41 : decode cX8_typeIn 41 = .ok (.ireturn, 1) := by decide +kernel
theorem dX8_isComputed_0 : decode cX8_isComputed 0 = .ok (.aload_n 0, 1) := by decide +kernel
theorem dX8_isComputed_1 : decode cX8_isComputed 1 = .ok (.getfield 16, 3) := by decide +kernel
theorem dX8_isComputed_4 : decode cX8_isComputed 4 = .ok (.bipush 10, 2) := by decide +kernel
theorem dX8_isComputed_6 : decode cX8_isComputed 6 = .ok (.iload_n 1, 1) := by decide +kernel
theorem dX8_isComputed_7 : decode cX8_isComputed 7 = .ok (.iconst 1, 1) := by decide +kernel
theorem dX8_isComputed_8 : decode cX8_isComputed 8 = .ok (.iadd, 1) := by decide +kernel
theorem dX8_isComputed_9 : decode cX8_isComputed 9 = .ok (.imul, 1) := by decide +kernel
theorem dX8_isComputed_10 : decode cX8_isComputed 10 = .ok (.iload_n 2, 1) := by decide +kernel
theorem dX8_isComputed_11 : decode cX8_isComputed 11 = .ok (.iadd, 1) := by decide +kernel
theorem dX8_isComputed_12 : decode cX8_isComputed 12 = .ok (.iaload, 1) := by decide +kernel
theorem dX8_isComputed_13 : decode cX8_isComputed 13 = .ok (.ifCond .le 7, 3) := by decide +kernel
theorem dX8_isComputed_16 : decode cX8_isComputed 16 = .ok (.iconst 1, 1) := by decide +kernel
theorem dX8_isComputed_17 : decode cX8_isComputed 17 = .ok (.goto 4, 3) := by decide +kernel
theorem dX8_isComputed_20 : decode cX8_isComputed 20 = .ok (.iconst 0, 1) := by decide +kernel
theorem dX8_isComputed_21 : decode cX8_isComputed 21 = .ok (.ireturn, 1) := by decide +kernel
theorem dX8_layOrder_0 : decode cX8_layOrder 0 = .ok (.iconst 0, 1) := by decide +kernel
theorem dX8_layOrder_1 : decode cX8_layOrder 1 = .ok (.istore_n 2, 1) := by decide +kernel
theorem dX8_layOrder_2 : decode cX8_layOrder 2 = .ok (.iconst 0, 1) := by decide +kernel
theorem dX8_layOrder_3 : decode cX8_layOrder 3 = .ok (.istore_n 3, 1) := by decide +kernel
theorem dX8_layOrder_4 : decode cX8_layOrder 4 = .ok (.iconst 0, 1) := by decide +kernel
theorem dX8_layOrder_5 : decode cX8_layOrder 5 = .ok (.istore 4, 2) := by decide +kernel
theorem dX8_layOrder_7 : decode cX8_layOrder 7 = .ok (.iload 4, 2) := by decide +kernel
theorem dX8_layOrder_9 : decode cX8_layOrder 9 = .ok (.bipush 6, 2) := by decide +kernel
theorem dX8_layOrder_11 : decode cX8_layOrder 11 = .ok (.if_icmp .ge 175, 3) := by decide +kernel
theorem dX8_layOrder_14 : decode cX8_layOrder 14 = .ok (.iconst (-1), 1) := by decide +kernel
theorem dX8_layOrder_15 : decode cX8_layOrder 15 = .ok (.istore 5, 2) := by decide +kernel
theorem dX8_layOrder_17 : decode cX8_layOrder 17 = .ok (.iconst 0, 1) := by decide +kernel
theorem dX8_layOrder_18 : decode cX8_layOrder 18 = .ok (.istore 6, 2) := by decide +kernel
theorem dX8_layOrder_20 : decode cX8_layOrder 20 = .ok (.iload 6, 2) := by decide +kernel
theorem dX8_layOrder_22 : decode cX8_layOrder 22 = .ok (.bipush 6, 2) := by decide +kernel
theorem dX8_layOrder_24 : decode cX8_layOrder 24 = .ok (.if_icmp .ge 132, 3) := by decide +kernel
theorem dX8_layOrder_27 : decode cX8_layOrder 27 = .ok (.iload 5, 2) := by decide +kernel
theorem dX8_layOrder_29 : decode cX8_layOrder 29 = .ok (.iconst (-1), 1) := by decide +kernel
theorem dX8_layOrder_30 : decode cX8_layOrder 30 = .ok (.if_icmp .ne 126, 3) := by decide +kernel
theorem dX8_layOrder_33 : decode cX8_layOrder 33 = .ok (.aload_n 0, 1) := by decide +kernel
theorem dX8_layOrder_34 : decode cX8_layOrder 34 = .ok (.iload_n 1, 1) := by decide +kernel
theorem dX8_layOrder_35 : decode cX8_layOrder 35 = .ok (.iload 6, 2) := by decide +kernel
theorem dX8_layOrder_37 : decode cX8_layOrder 37 = .ok (.invokevirtual 175, 3) := by decide +kernel
theorem dX8_layOrder_40 : decode cX8_layOrder 40 = .ok (.ifCond .eq 16, 3) := by decide +kernel
theorem dX8_layOrder_43 : decode cX8_layOrder 43 = .ok (.iload_n 2, 1) := by decide +kernel
theorem dX8_layOrder_44 : decode cX8_layOrder 44 = .ok (.iload 6, 2) := by decide +kernel
theorem dX8_layOrder_46 : decode cX8_layOrder 46 = .ok (.ishr, 1) := by decide +kernel
theorem dX8_layOrder_47 : decode cX8_layOrder 47 = .ok (.iconst 1, 1) := by decide +kernel
theorem dX8_layOrder_48 : decode cX8_layOrder 48 = .ok (.iand, 1) := by decide +kernel
theorem dX8_layOrder_49 : decode cX8_layOrder 49 = .ok (.ifCond .ne 7, 3) := by decide +kernel
theorem dX8_layOrder_52 : decode cX8_layOrder 52 = .ok (.iconst 1, 1) := by decide +kernel
theorem dX8_layOrder_53 : decode cX8_layOrder 53 = .ok (.goto 4, 3) := by decide +kernel
theorem dX8_layOrder_56 : decode cX8_layOrder 56 = .ok (.iconst 0, 1) := by decide +kernel
theorem dX8_layOrder_57 : decode cX8_layOrder 57 = .ok (.istore 7, 2) := by decide +kernel
theorem dX8_layOrder_59 : decode cX8_layOrder 59 = .ok (.iconst 0, 1) := by decide +kernel
theorem dX8_layOrder_60 : decode cX8_layOrder 60 = .ok (.istore 8, 2) := by decide +kernel
theorem dX8_layOrder_62 : decode cX8_layOrder 62 = .ok (.iload 8, 2) := by decide +kernel
theorem dX8_layOrder_64 : decode cX8_layOrder 64 = .ok (.bipush 6, 2) := by decide +kernel
theorem dX8_layOrder_66 : decode cX8_layOrder 66 = .ok (.if_icmp .ge 70, 3) := by decide +kernel
theorem dX8_layOrder_69 : decode cX8_layOrder 69 = .ok (.aload_n 0, 1) := by decide +kernel
theorem dX8_layOrder_70 : decode cX8_layOrder 70 = .ok (.iload_n 1, 1) := by decide +kernel
theorem dX8_layOrder_71 : decode cX8_layOrder 71 = .ok (.iload 8, 2) := by decide +kernel
theorem dX8_layOrder_73 : decode cX8_layOrder 73 = .ok (.invokevirtual 175, 3) := by decide +kernel
theorem dX8_layOrder_76 : decode cX8_layOrder 76 = .ok (.ifCond .eq 16, 3) := by decide +kernel
theorem dX8_layOrder_79 : decode cX8_layOrder 79 = .ok (.iload_n 2, 1) := by decide +kernel
theorem dX8_layOrder_80 : decode cX8_layOrder 80 = .ok (.iload 8, 2) := by decide +kernel
theorem dX8_layOrder_82 : decode cX8_layOrder 82 = .ok (.ishr, 1) := by decide +kernel
theorem dX8_layOrder_83 : decode cX8_layOrder 83 = .ok (.iconst 1, 1) := by decide +kernel
theorem dX8_layOrder_84 : decode cX8_layOrder 84 = .ok (.iand, 1) := by decide +kernel
theorem dX8_layOrder_85 : decode cX8_layOrder 85 = .ok (.ifCond .ne 7, 3) := by decide +kernel
theorem dX8_layOrder_88 : decode cX8_layOrder 88 = .ok (.iconst 1, 1) := by decide +kernel
theorem dX8_layOrder_89 : decode cX8_layOrder 89 = .ok (.goto 4, 3) := by decide +kernel
theorem dX8_layOrder_92 : decode cX8_layOrder 92 = .ok (.iconst 0, 1) := by decide +kernel
theorem dX8_layOrder_93 : decode cX8_layOrder 93 = .ok (.istore 9, 2) := by decide +kernel
theorem dX8_layOrder_95 : decode cX8_layOrder 95 = .ok (.iload 7, 2) := by decide +kernel
theorem dX8_layOrder_97 : decode cX8_layOrder 97 = .ok (.ifCond .eq 30, 3) := by decide +kernel
theorem dX8_layOrder_100 : decode cX8_layOrder 100 = .ok (.iload 9, 2) := by decide +kernel
theorem dX8_layOrder_102 : decode cX8_layOrder 102 = .ok (.ifCond .eq 21, 3) := by decide +kernel
theorem dX8_layOrder_105 : decode cX8_layOrder 105 = .ok (.aload_n 0, 1) := by decide +kernel
theorem dX8_layOrder_106 : decode cX8_layOrder 106 = .ok (.bipush 10, 2) := by decide +kernel
theorem dX8_layOrder_108 : decode cX8_layOrder 108 = .ok (.iload_n 1, 1) := by decide +kernel
theorem dX8_layOrder_109 : decode cX8_layOrder 109 = .ok (.iconst 1, 1) := by decide +kernel
theorem dX8_layOrder_110 : decode cX8_layOrder 110 = .ok (.iadd, 1) := by decide +kernel
theorem dX8_layOrder_111 : decode cX8_layOrder 111 = .ok (.imul, 1) := by decide +kernel
theorem dX8_layOrder_112 : decode cX8_layOrder 112 = .ok (.iload 6, 2) := by decide +kernel
theorem dX8_layOrder_114 : decode cX8_layOrder 114 = .ok (.iadd, 1) := by decide +kernel
theorem dX8_layOrder_115 : decode cX8_layOrder 115 = .ok (.iload 8, 2) := by decide +kernel
theorem dX8_layOrder_117 : decode cX8_layOrder 117 = .ok (.invokevirtual 145, 3) := by decide +kernel
theorem dX8_layOrder_120 : decode cX8_layOrder 120 = .ok (.ifCond .ne 7, 3) := by decide +kernel
theorem dX8_layOrder_123 : decode cX8_layOrder 123 = .ok (.iconst 1, 1) := by decide +kernel
theorem dX8_layOrder_124 : decode cX8_layOrder 124 = .ok (.goto 4, 3) := by decide +kernel
theorem dX8_layOrder_127 : decode cX8_layOrder 127 = .ok (.iconst 0, 1) := by decide +kernel
theorem dX8_layOrder_128 : decode cX8_layOrder 128 = .ok (.istore 7, 2) := by decide +kernel
theorem dX8_layOrder_130 : decode cX8_layOrder 130 = .ok (.iinc 8 1, 3) := by decide +kernel
theorem dX8_layOrder_133 : decode cX8_layOrder 133 = .ok (.goto (-71), 3) := by decide +kernel
theorem dX8_layOrder_136 : decode cX8_layOrder 136 = .ok (.iload 7, 2) := by decide +kernel
theorem dX8_layOrder_138 : decode cX8_layOrder 138 = .ok (.ifCond .eq 8, 3) := by decide +kernel
theorem dX8_layOrder_141 : decode cX8_layOrder 141 = .ok (.iload 6, 2) := by decide +kernel
theorem dX8_layOrder_143 : decode cX8_layOrder 143 = .ok (.goto 5, 3) := by decide +kernel
theorem dX8_layOrder_146 : decode cX8_layOrder 146 = .ok (.iload 5, 2) := by decide +kernel
theorem dX8_layOrder_148 : decode cX8_layOrder 148 = .ok (.istore 5, 2) := by decide +kernel
theorem dX8_layOrder_150 : decode cX8_layOrder 150 = .ok (.iinc 6 1, 3) := by decide +kernel
theorem dX8_layOrder_153 : decode cX8_layOrder 153 = .ok (.goto (-133), 3) := by decide +kernel
theorem dX8_layOrder_156 : decode cX8_layOrder 156 = .ok (.iload 5, 2) := by decide +kernel
theorem dX8_layOrder_158 : decode cX8_layOrder 158 = .ok (.iconst (-1), 1) := by decide +kernel
theorem dX8_layOrder_159 : decode cX8_layOrder 159 = .ok (.if_icmp .eq 21, 3) := by decide +kernel
theorem dX8_layOrder_162 : decode cX8_layOrder 162 = .ok (.aload_n 0, 1) := by decide +kernel
theorem dX8_layOrder_163 : decode cX8_layOrder 163 = .ok (.getfield 53, 3) := by decide +kernel
theorem dX8_layOrder_166 : decode cX8_layOrder 166 = .ok (.iload_n 3, 1) := by decide +kernel
theorem dX8_layOrder_167 : decode cX8_layOrder 167 = .ok (.iload 5, 2) := by decide +kernel
theorem dX8_layOrder_169 : decode cX8_layOrder 169 = .ok (.iastore, 1) := by decide +kernel
theorem dX8_layOrder_170 : decode cX8_layOrder 170 = .ok (.iinc 3 1, 3) := by decide +kernel
theorem dX8_layOrder_173 : decode cX8_layOrder 173 = .ok (.iload_n 2, 1) := by decide +kernel
theorem dX8_layOrder_174 : decode cX8_layOrder 174 = .ok (.iconst 1, 1) := by decide +kernel
theorem dX8_layOrder_175 : decode cX8_layOrder 175 = .ok (.iload 5, 2) := by decide +kernel
theorem dX8_layOrder_177 : decode cX8_layOrder 177 = .ok (.ishl, 1) := by decide +kernel
theorem dX8_layOrder_178 : decode cX8_layOrder 178 = .ok (.ior, 1) := by decide +kernel
theorem dX8_layOrder_179 : decode cX8_layOrder 179 = .ok (.istore_n 2, 1) := by decide +kernel
theorem dX8_layOrder_180 : decode cX8_layOrder 180 = .ok (.iinc 4 1, 3) := by decide +kernel
theorem dX8_layOrder_183 : decode cX8_layOrder 183 = .ok (.goto (-176), 3) := by decide +kernel
theorem dX8_layOrder_186 : decode cX8_layOrder 186 = .ok (.iload_n 3, 1) := by decide +kernel
theorem dX8_layOrder_187 : decode cX8_layOrder 187 = .ok (.ireturn, 1) := by decide +kernel
theorem dX8_order_0 : decode cX8_order 0 = .ok (.aload_n 0, 1) := by decide +kernel
theorem dX8_order_1 : decode cX8_order 1 = .ok (.aload_n 0, 1) := by decide +kernel
theorem dX8_order_2 : decode cX8_order 2 = .ok (.iload_n 1, 1) := by decide +kernel
theorem dX8_order_3 : decode cX8_order 3 = .ok (.invokevirtual 172, 3) := by decide +kernel
theorem dX8_order_6 : decode cX8_order 6 = .ok (.ifCond .eq 11, 3) := by decide +kernel
theorem dX8_order_9 : decode cX8_order 9 = .ok (.iload_n 2, 1) := by decide +kernel
theorem dX8_order_10 : decode cX8_order 10 = .ok (.ifCond .lt 7, 3) := by decide +kernel
theorem dX8_order_13 : decode cX8_order 13 = .ok (.iconst 0, 1) := by decide +kernel
theorem dX8_order_14 : decode cX8_order 14 = .ok (.goto 4, 3) := by decide +kernel
theorem dX8_order_17 : decode cX8_order 17 = .ok (.iconst 1, 1) := by decide +kernel
theorem dX8_order_18 : decode cX8_order 18 = .ok (.putfield 66, 3) := by decide +kernel
theorem dX8_order_21 : decode cX8_order 21 = .ok (.aload_n 0, 1) := by decide +kernel
theorem dX8_order_22 : decode cX8_order 22 = .ok (.getfield 66, 3) := by decide +kernel
theorem dX8_order_25 : decode cX8_order 25 = .ok (.ifCond .le 5, 3) := by decide +kernel
theorem dX8_order_28 : decode cX8_order 28 = .ok (.iconst 0, 1) := by decide +kernel
theorem dX8_order_29 : decode cX8_order 29 = .ok (.ireturn, 1) := by decide +kernel
theorem dX8_order_30 : decode cX8_order 30 = .ok (.aload_n 0, 1) := by decide +kernel
theorem dX8_order_31 : decode cX8_order 31 = .ok (.iload_n 1, 1) := by decide +kernel
theorem dX8_order_32 : decode cX8_order 32 = .ok (.invokevirtual 178, 3) := by decide +kernel
theorem dX8_order_35 : decode cX8_order 35 = .ok (.istore_n 3, 1) := by decide +kernel
theorem dX8_order_36 : decode cX8_order 36 = .ok (.iload_n 2, 1) := by decide +kernel
theorem dX8_order_37 : decode cX8_order 37 = .ok (.iload_n 3, 1) := by decide +kernel
theorem dX8_order_38 : decode cX8_order 38 = .ok (.if_icmp .ge 12, 3) := by decide +kernel
theorem dX8_order_41 : decode cX8_order 41 = .ok (.aload_n 0, 1) := by decide +kernel
theorem dX8_order_42 : decode cX8_order 42 = .ok (.getfield 53, 3) := by decide +kernel
theorem dX8_order_45 : decode cX8_order 45 = .ok (.iload_n 2, 1) := by decide +kernel
theorem dX8_order_46 : decode cX8_order 46 = .ok (.iaload, 1) := by decide +kernel
theorem dX8_order_47 : decode cX8_order 47 = .ok (.goto 4, 3) := by decide +kernel
theorem dX8_order_50 : decode cX8_order 50 = .ok (.iconst (-1), 1) := by decide +kernel
theorem dX8_order_51 : decode cX8_order 51 = .ok (.ireturn, 1) := by decide +kernel
theorem dX8_lays_0 : decode cX8_lays 0 = .ok (.aload_n 0, 1) := by decide +kernel
theorem dX8_lays_1 : decode cX8_lays 1 = .ok (.getfield 56, 3) := by decide +kernel
theorem dX8_lays_4 : decode cX8_lays 4 = .ok (.aload_n 0, 1) := by decide +kernel
theorem dX8_lays_5 : decode cX8_lays 5 = .ok (.getfield 181, 3) := by decide +kernel
theorem dX8_lays_8 : decode cX8_lays 8 = .ok (.iload_n 1, 1) := by decide +kernel
theorem dX8_lays_9 : decode cX8_lays 9 = .ok (.iastore, 1) := by decide +kernel
theorem dX8_lays_10 : decode cX8_lays 10 = .ok (.aload_n 0, 1) := by decide +kernel
theorem dX8_lays_11 : decode cX8_lays 11 = .ok (.dup, 1) := by decide +kernel
theorem dX8_lays_12 : decode cX8_lays 12 = .ok (.getfield 181, 3) := by decide +kernel
theorem dX8_lays_15 : decode cX8_lays 15 = .ok (.iconst 1, 1) := by decide +kernel
theorem dX8_lays_16 : decode cX8_lays 16 = .ok (.iadd, 1) := by decide +kernel
theorem dX8_lays_17 : decode cX8_lays 17 = .ok (.putfield 181, 3) := by decide +kernel
theorem dX8_lays_20 : decode cX8_lays 20 = .ok (.return_, 1) := by decide +kernel
theorem dX8_putNumber_0 : decode cX8_putNumber 0 = .ok (.iload_n 1, 1) := by decide +kernel
theorem dX8_putNumber_1 : decode cX8_putNumber 1 = .ok (.bipush 99, 2) := by decide +kernel
theorem dX8_putNumber_3 : decode cX8_putNumber 3 = .ok (.if_icmp .le 14, 3) := by decide +kernel
theorem dX8_putNumber_6 : decode cX8_putNumber 6 = .ok (.aload_n 0, 1) := by decide +kernel
theorem dX8_putNumber_7 : decode cX8_putNumber 7 = .ok (.bipush 48, 2) := by decide +kernel
theorem dX8_putNumber_9 : decode cX8_putNumber 9 = .ok (.iload_n 1, 1) := by decide +kernel
theorem dX8_putNumber_10 : decode cX8_putNumber 10 = .ok (.bipush 100, 2) := by decide +kernel
theorem dX8_putNumber_12 : decode cX8_putNumber 12 = .ok (.idiv, 1) := by decide +kernel
theorem dX8_putNumber_13 : decode cX8_putNumber 13 = .ok (.iadd, 1) := by decide +kernel
theorem dX8_putNumber_14 : decode cX8_putNumber 14 = .ok (.invokevirtual 184, 3) := by decide +kernel
theorem dX8_putNumber_17 : decode cX8_putNumber 17 = .ok (.iload_n 1, 1) := by decide +kernel
theorem dX8_putNumber_18 : decode cX8_putNumber 18 = .ok (.bipush 9, 2) := by decide +kernel
theorem dX8_putNumber_20 : decode cX8_putNumber 20 = .ok (.if_icmp .le 17, 3) := by decide +kernel
theorem dX8_putNumber_23 : decode cX8_putNumber 23 = .ok (.aload_n 0, 1) := by decide +kernel
theorem dX8_putNumber_24 : decode cX8_putNumber 24 = .ok (.bipush 48, 2) := by decide +kernel
theorem dX8_putNumber_26 : decode cX8_putNumber 26 = .ok (.iload_n 1, 1) := by decide +kernel
theorem dX8_putNumber_27 : decode cX8_putNumber 27 = .ok (.bipush 10, 2) := by decide +kernel
theorem dX8_putNumber_29 : decode cX8_putNumber 29 = .ok (.idiv, 1) := by decide +kernel
theorem dX8_putNumber_30 : decode cX8_putNumber 30 = .ok (.bipush 10, 2) := by decide +kernel
theorem dX8_putNumber_32 : decode cX8_putNumber 32 = .ok (.irem, 1) := by decide +kernel
theorem dX8_putNumber_33 : decode cX8_putNumber 33 = .ok (.iadd, 1) := by decide +kernel
theorem dX8_putNumber_34 : decode cX8_putNumber 34 = .ok (.invokevirtual 184, 3) := by decide +kernel
theorem dX8_putNumber_37 : decode cX8_putNumber 37 = .ok (.aload_n 0, 1) := by decide +kernel
theorem dX8_putNumber_38 : decode cX8_putNumber 38 = .ok (.bipush 48, 2) := by decide +kernel
theorem dX8_putNumber_40 : decode cX8_putNumber 40 = .ok (.iload_n 1, 1) := by decide +kernel
theorem dX8_putNumber_41 : decode cX8_putNumber 41 = .ok (.bipush 10, 2) := by decide +kernel
theorem dX8_putNumber_43 : decode cX8_putNumber 43 = .ok (.irem, 1) := by decide +kernel
theorem dX8_putNumber_44 : decode cX8_putNumber 44 = .ok (.iadd, 1) := by decide +kernel
theorem dX8_putNumber_45 : decode cX8_putNumber 45 = .ok (.invokevirtual 184, 3) := by decide +kernel
theorem dX8_putNumber_48 : decode cX8_putNumber 48 = .ok (.return_, 1) := by decide +kernel
theorem dX8_beginOf_0 : decode cX8_beginOf 0 = .ok (.iconst 1, 1) := by decide +kernel
theorem dX8_beginOf_1 : decode cX8_beginOf 1 = .ok (.istore_n 2, 1) := by decide +kernel
theorem dX8_beginOf_2 : decode cX8_beginOf 2 = .ok (.iload_n 1, 1) := by decide +kernel
theorem dX8_beginOf_3 : decode cX8_beginOf 3 = .ok (.iconst 1, 1) := by decide +kernel
theorem dX8_beginOf_4 : decode cX8_beginOf 4 = .ok (.iadd, 1) := by decide +kernel
theorem dX8_beginOf_5 : decode cX8_beginOf 5 = .ok (.istore_n 3, 1) := by decide +kernel
theorem dX8_beginOf_6 : decode cX8_beginOf 6 = .ok (.iload_n 2, 1) := by decide +kernel
theorem dX8_beginOf_7 : decode cX8_beginOf 7 = .ok (.ifCond .le 45, 3) := by decide +kernel
theorem dX8_beginOf_10 : decode cX8_beginOf 10 = .ok (.iinc 3 (-1), 3) := by decide +kernel
theorem dX8_beginOf_13 : decode cX8_beginOf 13 = .ok (.iload_n 2, 1) := by decide +kernel
theorem dX8_beginOf_14 : decode cX8_beginOf 14 = .ok (.aload_n 0, 1) := by decide +kernel
theorem dX8_beginOf_15 : decode cX8_beginOf 15 = .ok (.getfield 13, 3) := by decide +kernel
theorem dX8_beginOf_18 : decode cX8_beginOf 18 = .ok (.iload_n 3, 1) := by decide +kernel
theorem dX8_beginOf_19 : decode cX8_beginOf 19 = .ok (.iaload, 1) := by decide +kernel
theorem dX8_beginOf_20 : decode cX8_beginOf 20 = .ok (.sipush 2000, 3) := by decide +kernel
theorem dX8_beginOf_23 : decode cX8_beginOf 23 = .ok (.if_icmp .ge 7, 3) := by decide +kernel
theorem dX8_beginOf_26 : decode cX8_beginOf 26 = .ok (.iconst (-1), 1) := by decide +kernel
theorem dX8_beginOf_27 : decode cX8_beginOf 27 = .ok (.goto 20, 3) := by decide +kernel
theorem dX8_beginOf_30 : decode cX8_beginOf 30 = .ok (.aload_n 0, 1) := by decide +kernel
theorem dX8_beginOf_31 : decode cX8_beginOf 31 = .ok (.getfield 13, 3) := by decide +kernel
theorem dX8_beginOf_34 : decode cX8_beginOf 34 = .ok (.iload_n 3, 1) := by decide +kernel
theorem dX8_beginOf_35 : decode cX8_beginOf 35 = .ok (.iaload, 1) := by decide +kernel
theorem dX8_beginOf_36 : decode cX8_beginOf 36 = .ok (.sipush 2033, 3) := by decide +kernel
theorem dX8_beginOf_39 : decode cX8_beginOf 39 = .ok (.if_icmp .ne 7, 3) := by decide +kernel
theorem dX8_beginOf_42 : decode cX8_beginOf 42 = .ok (.iconst 0, 1) := by decide +kernel
theorem dX8_beginOf_43 : decode cX8_beginOf 43 = .ok (.goto 4, 3) := by decide +kernel
theorem dX8_beginOf_46 : decode cX8_beginOf 46 = .ok (.iconst 1, 1) := by decide +kernel
theorem dX8_beginOf_47 : decode cX8_beginOf 47 = .ok (.iadd, 1) := by decide +kernel
theorem dX8_beginOf_48 : decode cX8_beginOf 48 = .ok (.istore_n 2, 1) := by decide +kernel
theorem dX8_beginOf_49 : decode cX8_beginOf 49 = .ok (.goto (-43), 3) := by decide +kernel
theorem dX8_beginOf_52 : decode cX8_beginOf 52 = .ok (.iload_n 3, 1) := by decide +kernel
theorem dX8_beginOf_53 : decode cX8_beginOf 53 = .ok (.ireturn, 1) := by decide +kernel
theorem dX8_layPlain_0 : decode cX8_layPlain 0 = .ok (.aload_n 0, 1) := by decide +kernel
theorem dX8_layPlain_1 : decode cX8_layPlain 1 = .ok (.iconst 0, 1) := by decide +kernel
theorem dX8_layPlain_2 : decode cX8_layPlain 2 = .ok (.putfield 181, 3) := by decide +kernel
theorem dX8_layPlain_5 : decode cX8_layPlain 5 = .ok (.iconst 1, 1) := by decide +kernel
theorem dX8_layPlain_6 : decode cX8_layPlain 6 = .ok (.istore_n 2, 1) := by decide +kernel
theorem dX8_layPlain_7 : decode cX8_layPlain 7 = .ok (.aload_n 0, 1) := by decide +kernel
theorem dX8_layPlain_8 : decode cX8_layPlain 8 = .ok (.getfield 59, 3) := by decide +kernel
theorem dX8_layPlain_11 : decode cX8_layPlain 11 = .ok (.iconst 0, 1) := by decide +kernel
theorem dX8_layPlain_12 : decode cX8_layPlain 12 = .ok (.bipush 40, 2) := by decide +kernel
theorem dX8_layPlain_14 : decode cX8_layPlain 14 = .ok (.iload_n 1, 1) := by decide +kernel
theorem dX8_layPlain_15 : decode cX8_layPlain 15 = .ok (.imul, 1) := by decide +kernel
theorem dX8_layPlain_16 : decode cX8_layPlain 16 = .ok (.aload_n 0, 1) := by decide +kernel
theorem dX8_layPlain_17 : decode cX8_layPlain 17 = .ok (.getfield 16, 3) := by decide +kernel
theorem dX8_layPlain_20 : decode cX8_layPlain 20 = .ok (.iload_n 1, 1) := by decide +kernel
theorem dX8_layPlain_21 : decode cX8_layPlain 21 = .ok (.iaload, 1) := by decide +kernel
theorem dX8_layPlain_22 : decode cX8_layPlain 22 = .ok (.iadd, 1) := by decide +kernel
theorem dX8_layPlain_23 : decode cX8_layPlain 23 = .ok (.iconst 1, 1) := by decide +kernel
theorem dX8_layPlain_24 : decode cX8_layPlain 24 = .ok (.isub, 1) := by decide +kernel
theorem dX8_layPlain_25 : decode cX8_layPlain 25 = .ok (.iastore, 1) := by decide +kernel
theorem dX8_layPlain_26 : decode cX8_layPlain 26 = .ok (.iload_n 2, 1) := by decide +kernel
theorem dX8_layPlain_27 : decode cX8_layPlain 27 = .ok (.ifCond .le 193, 3) := by decide +kernel
theorem dX8_layPlain_30 : decode cX8_layPlain 30 = .ok (.iinc 2 (-1), 3) := by decide +kernel
theorem dX8_layPlain_33 : decode cX8_layPlain 33 = .ok (.aload_n 0, 1) := by decide +kernel
theorem dX8_layPlain_34 : decode cX8_layPlain 34 = .ok (.getfield 59, 3) := by decide +kernel
theorem dX8_layPlain_37 : decode cX8_layPlain 37 = .ok (.iload_n 2, 1) := by decide +kernel
theorem dX8_layPlain_38 : decode cX8_layPlain 38 = .ok (.iaload, 1) := by decide +kernel
theorem dX8_layPlain_39 : decode cX8_layPlain 39 = .ok (.istore_n 3, 1) := by decide +kernel
theorem dX8_layPlain_40 : decode cX8_layPlain 40 = .ok (.iload_n 3, 1) := by decide +kernel
theorem dX8_layPlain_41 : decode cX8_layPlain 41 = .ok (.sipush 10000, 3) := by decide +kernel
theorem dX8_layPlain_44 : decode cX8_layPlain 44 = .ok (.if_icmp .lt 15, 3) := by decide +kernel
theorem dX8_layPlain_47 : decode cX8_layPlain 47 = .ok (.aload_n 0, 1) := by decide +kernel
theorem dX8_layPlain_48 : decode cX8_layPlain 48 = .ok (.iload_n 3, 1) := by decide +kernel
theorem dX8_layPlain_49 : decode cX8_layPlain 49 = .ok (.sipush 10000, 3) := by decide +kernel
theorem dX8_layPlain_52 : decode cX8_layPlain 52 = .ok (.isub, 1) := by decide +kernel
theorem dX8_layPlain_53 : decode cX8_layPlain 53 = .ok (.invokevirtual 184, 3) := by decide +kernel
theorem dX8_layPlain_56 : decode cX8_layPlain 56 = .ok (.goto 161, 3) := by decide +kernel
theorem dX8_layPlain_59 : decode cX8_layPlain 59 = .ok (.aload_n 0, 1) := by decide +kernel
theorem dX8_layPlain_60 : decode cX8_layPlain 60 = .ok (.getfield 13, 3) := by decide +kernel
theorem dX8_layPlain_63 : decode cX8_layPlain 63 = .ok (.iload_n 3, 1) := by decide +kernel
theorem dX8_layPlain_64 : decode cX8_layPlain 64 = .ok (.iaload, 1) := by decide +kernel
theorem dX8_layPlain_65 : decode cX8_layPlain 65 = .ok (.sipush 1000, 3) := by decide +kernel
theorem dX8_layPlain_68 : decode cX8_layPlain 68 = .ok (.if_icmp .ge 16, 3) := by decide +kernel
theorem dX8_layPlain_71 : decode cX8_layPlain 71 = .ok (.aload_n 0, 1) := by decide +kernel
theorem dX8_layPlain_72 : decode cX8_layPlain 72 = .ok (.aload_n 0, 1) := by decide +kernel
theorem dX8_layPlain_73 : decode cX8_layPlain 73 = .ok (.getfield 13, 3) := by decide +kernel
theorem dX8_layPlain_76 : decode cX8_layPlain 76 = .ok (.iload_n 3, 1) := by decide +kernel
theorem dX8_layPlain_77 : decode cX8_layPlain 77 = .ok (.iaload, 1) := by decide +kernel
theorem dX8_layPlain_78 : decode cX8_layPlain 78 = .ok (.invokevirtual 187, 3) := by decide +kernel
theorem dX8_layPlain_81 : decode cX8_layPlain 81 = .ok (.goto 136, 3) := by decide +kernel
theorem dX8_layPlain_84 : decode cX8_layPlain 84 = .ok (.aload_n 0, 1) := by decide +kernel
theorem dX8_layPlain_85 : decode cX8_layPlain 85 = .ok (.getfield 13, 3) := by decide +kernel
theorem dX8_layPlain_88 : decode cX8_layPlain 88 = .ok (.iload_n 3, 1) := by decide +kernel
theorem dX8_layPlain_89 : decode cX8_layPlain 89 = .ok (.iaload, 1) := by decide +kernel
theorem dX8_layPlain_90 : decode cX8_layPlain 90 = .ok (.sipush 2000, 3) := by decide +kernel
theorem dX8_layPlain_93 : decode cX8_layPlain 93 = .ok (.if_icmp .ge 23, 3) := by decide +kernel
theorem dX8_layPlain_96 : decode cX8_layPlain 96 = .ok (.aload_n 0, 1) := by decide +kernel
theorem dX8_layPlain_97 : decode cX8_layPlain 97 = .ok (.bipush 97, 2) := by decide +kernel
theorem dX8_layPlain_99 : decode cX8_layPlain 99 = .ok (.aload_n 0, 1) := by decide +kernel
theorem dX8_layPlain_100 : decode cX8_layPlain 100 = .ok (.getfield 13, 3) := by decide +kernel
theorem dX8_layPlain_103 : decode cX8_layPlain 103 = .ok (.iload_n 3, 1) := by decide +kernel
theorem dX8_layPlain_104 : decode cX8_layPlain 104 = .ok (.iaload, 1) := by decide +kernel
theorem dX8_layPlain_105 : decode cX8_layPlain 105 = .ok (.iadd, 1) := by decide +kernel
theorem dX8_layPlain_106 : decode cX8_layPlain 106 = .ok (.sipush 1000, 3) := by decide +kernel
theorem dX8_layPlain_109 : decode cX8_layPlain 109 = .ok (.isub, 1) := by decide +kernel
theorem dX8_layPlain_110 : decode cX8_layPlain 110 = .ok (.invokevirtual 184, 3) := by decide +kernel
theorem dX8_layPlain_113 : decode cX8_layPlain 113 = .ok (.goto 104, 3) := by decide +kernel
theorem dX8_layPlain_116 : decode cX8_layPlain 116 = .ok (.aload_n 0, 1) := by decide +kernel
theorem dX8_layPlain_117 : decode cX8_layPlain 117 = .ok (.getfield 13, 3) := by decide +kernel
theorem dX8_layPlain_120 : decode cX8_layPlain 120 = .ok (.iload_n 3, 1) := by decide +kernel
theorem dX8_layPlain_121 : decode cX8_layPlain 121 = .ok (.iaload, 1) := by decide +kernel
theorem dX8_layPlain_122 : decode cX8_layPlain 122 = .ok (.sipush 2033, 3) := by decide +kernel
theorem dX8_layPlain_125 : decode cX8_layPlain 125 = .ok (.if_icmp .ne 24, 3) := by decide +kernel
theorem dX8_layPlain_128 : decode cX8_layPlain 128 = .ok (.aload_n 0, 1) := by decide +kernel
theorem dX8_layPlain_129 : decode cX8_layPlain 129 = .ok (.bipush 33, 2) := by decide +kernel
theorem dX8_layPlain_131 : decode cX8_layPlain 131 = .ok (.invokevirtual 184, 3) := by decide +kernel
theorem dX8_layPlain_134 : decode cX8_layPlain 134 = .ok (.aload_n 0, 1) := by decide +kernel
theorem dX8_layPlain_135 : decode cX8_layPlain 135 = .ok (.getfield 59, 3) := by decide +kernel
theorem dX8_layPlain_138 : decode cX8_layPlain 138 = .ok (.iload_n 2, 1) := by decide +kernel
theorem dX8_layPlain_139 : decode cX8_layPlain 139 = .ok (.iload_n 3, 1) := by decide +kernel
theorem dX8_layPlain_140 : decode cX8_layPlain 140 = .ok (.iconst 1, 1) := by decide +kernel
theorem dX8_layPlain_141 : decode cX8_layPlain 141 = .ok (.isub, 1) := by decide +kernel
theorem dX8_layPlain_142 : decode cX8_layPlain 142 = .ok (.iastore, 1) := by decide +kernel
theorem dX8_layPlain_143 : decode cX8_layPlain 143 = .ok (.iinc 2 1, 3) := by decide +kernel
theorem dX8_layPlain_146 : decode cX8_layPlain 146 = .ok (.goto 71, 3) := by decide +kernel
theorem dX8_layPlain_149 : decode cX8_layPlain 149 = .ok (.aload_n 0, 1) := by decide +kernel
theorem dX8_layPlain_150 : decode cX8_layPlain 150 = .ok (.bipush 40, 2) := by decide +kernel
theorem dX8_layPlain_152 : decode cX8_layPlain 152 = .ok (.invokevirtual 184, 3) := by decide +kernel
theorem dX8_layPlain_155 : decode cX8_layPlain 155 = .ok (.aload_n 0, 1) := by decide +kernel
theorem dX8_layPlain_156 : decode cX8_layPlain 156 = .ok (.getfield 59, 3) := by decide +kernel
theorem dX8_layPlain_159 : decode cX8_layPlain 159 = .ok (.iload_n 2, 1) := by decide +kernel
theorem dX8_layPlain_160 : decode cX8_layPlain 160 = .ok (.sipush 10041, 3) := by decide +kernel
theorem dX8_layPlain_163 : decode cX8_layPlain 163 = .ok (.iastore, 1) := by decide +kernel
theorem dX8_layPlain_164 : decode cX8_layPlain 164 = .ok (.aload_n 0, 1) := by decide +kernel
theorem dX8_layPlain_165 : decode cX8_layPlain 165 = .ok (.getfield 59, 3) := by decide +kernel
theorem dX8_layPlain_168 : decode cX8_layPlain 168 = .ok (.iload_n 2, 1) := by decide +kernel
theorem dX8_layPlain_169 : decode cX8_layPlain 169 = .ok (.iconst 1, 1) := by decide +kernel
theorem dX8_layPlain_170 : decode cX8_layPlain 170 = .ok (.iadd, 1) := by decide +kernel
theorem dX8_layPlain_171 : decode cX8_layPlain 171 = .ok (.iload_n 3, 1) := by decide +kernel
theorem dX8_layPlain_172 : decode cX8_layPlain 172 = .ok (.iconst 1, 1) := by decide +kernel
theorem dX8_layPlain_173 : decode cX8_layPlain 173 = .ok (.isub, 1) := by decide +kernel
theorem dX8_layPlain_174 : decode cX8_layPlain 174 = .ok (.iastore, 1) := by decide +kernel
theorem dX8_layPlain_175 : decode cX8_layPlain 175 = .ok (.aload_n 0, 1) := by decide +kernel
theorem dX8_layPlain_176 : decode cX8_layPlain 176 = .ok (.getfield 59, 3) := by decide +kernel
theorem dX8_layPlain_179 : decode cX8_layPlain 179 = .ok (.iload_n 2, 1) := by decide +kernel
theorem dX8_layPlain_180 : decode cX8_layPlain 180 = .ok (.iconst 2, 1) := by decide +kernel
theorem dX8_layPlain_181 : decode cX8_layPlain 181 = .ok (.iadd, 1) := by decide +kernel
theorem dX8_layPlain_182 : decode cX8_layPlain 182 = .ok (.sipush 10000, 3) := by decide +kernel
theorem dX8_layPlain_185 : decode cX8_layPlain 185 = .ok (.aload_n 0, 1) := by decide +kernel
theorem dX8_layPlain_186 : decode cX8_layPlain 186 = .ok (.getfield 13, 3) := by decide +kernel
theorem dX8_layPlain_189 : decode cX8_layPlain 189 = .ok (.iload_n 3, 1) := by decide +kernel
theorem dX8_layPlain_190 : decode cX8_layPlain 190 = .ok (.iaload, 1) := by decide +kernel
theorem dX8_layPlain_191 : decode cX8_layPlain 191 = .ok (.iadd, 1) := by decide +kernel
theorem dX8_layPlain_192 : decode cX8_layPlain 192 = .ok (.sipush 2000, 3) := by decide +kernel
theorem dX8_layPlain_195 : decode cX8_layPlain 195 = .ok (.isub, 1) := by decide +kernel
theorem dX8_layPlain_196 : decode cX8_layPlain 196 = .ok (.iastore, 1) := by decide +kernel
theorem dX8_layPlain_197 : decode cX8_layPlain 197 = .ok (.aload_n 0, 1) := by decide +kernel
theorem dX8_layPlain_198 : decode cX8_layPlain 198 = .ok (.getfield 59, 3) := by decide +kernel
theorem dX8_layPlain_201 : decode cX8_layPlain 201 = .ok (.iload_n 2, 1) := by decide +kernel
theorem dX8_layPlain_202 : decode cX8_layPlain 202 = .ok (.iconst 3, 1) := by decide +kernel
theorem dX8_layPlain_203 : decode cX8_layPlain 203 = .ok (.iadd, 1) := by decide +kernel
theorem dX8_layPlain_204 : decode cX8_layPlain 204 = .ok (.aload_n 0, 1) := by decide +kernel
theorem dX8_layPlain_205 : decode cX8_layPlain 205 = .ok (.iload_n 3, 1) := by decide +kernel
theorem dX8_layPlain_206 : decode cX8_layPlain 206 = .ok (.iconst 1, 1) := by decide +kernel
theorem dX8_layPlain_207 : decode cX8_layPlain 207 = .ok (.isub, 1) := by decide +kernel
theorem dX8_layPlain_208 : decode cX8_layPlain 208 = .ok (.invokevirtual 190, 3) := by decide +kernel
theorem dX8_layPlain_211 : decode cX8_layPlain 211 = .ok (.iconst 1, 1) := by decide +kernel
theorem dX8_layPlain_212 : decode cX8_layPlain 212 = .ok (.isub, 1) := by decide +kernel
theorem dX8_layPlain_213 : decode cX8_layPlain 213 = .ok (.iastore, 1) := by decide +kernel
theorem dX8_layPlain_214 : decode cX8_layPlain 214 = .ok (.iinc 2 4, 3) := by decide +kernel
theorem dX8_layPlain_217 : decode cX8_layPlain 217 = .ok (.goto (-191), 3) := by decide +kernel
theorem dX8_layPlain_220 : decode cX8_layPlain 220 = .ok (.return_, 1) := by decide +kernel
theorem dX8_plain_0 : decode cX8_plain 0 = .ok (.aload_n 0, 1) := by decide +kernel
theorem dX8_plain_1 : decode cX8_plain 1 = .ok (.aload_n 0, 1) := by decide +kernel
theorem dX8_plain_2 : decode cX8_plain 2 = .ok (.iload_n 1, 1) := by decide +kernel
theorem dX8_plain_3 : decode cX8_plain 3 = .ok (.invokevirtual 172, 3) := by decide +kernel
theorem dX8_plain_6 : decode cX8_plain 6 = .ok (.ifCond .eq 18, 3) := by decide +kernel
theorem dX8_plain_9 : decode cX8_plain 9 = .ok (.iload_n 2, 1) := by decide +kernel
theorem dX8_plain_10 : decode cX8_plain 10 = .ok (.invokestatic 149, 3) := by decide +kernel
theorem dX8_plain_13 : decode cX8_plain 13 = .ok (.ifCond .eq 11, 3) := by decide +kernel
theorem dX8_plain_16 : decode cX8_plain 16 = .ok (.iload_n 3, 1) := by decide +kernel
theorem dX8_plain_17 : decode cX8_plain 17 = .ok (.ifCond .lt 7, 3) := by decide +kernel
theorem dX8_plain_20 : decode cX8_plain 20 = .ok (.iconst 0, 1) := by decide +kernel
theorem dX8_plain_21 : decode cX8_plain 21 = .ok (.goto 4, 3) := by decide +kernel
theorem dX8_plain_24 : decode cX8_plain 24 = .ok (.iconst 1, 1) := by decide +kernel
theorem dX8_plain_25 : decode cX8_plain 25 = .ok (.putfield 66, 3) := by decide +kernel
theorem dX8_plain_28 : decode cX8_plain 28 = .ok (.aload_n 0, 1) := by decide +kernel
theorem dX8_plain_29 : decode cX8_plain 29 = .ok (.getfield 66, 3) := by decide +kernel
theorem dX8_plain_32 : decode cX8_plain 32 = .ok (.ifCond .le 5, 3) := by decide +kernel
theorem dX8_plain_35 : decode cX8_plain 35 = .ok (.iconst 0, 1) := by decide +kernel
theorem dX8_plain_36 : decode cX8_plain 36 = .ok (.ireturn, 1) := by decide +kernel
theorem dX8_plain_37 : decode cX8_plain 37 = .ok (.bipush 10, 2) := by decide +kernel
theorem dX8_plain_39 : decode cX8_plain 39 = .ok (.iload_n 1, 1) := by decide +kernel
theorem dX8_plain_40 : decode cX8_plain 40 = .ok (.iconst 1, 1) := by decide +kernel
theorem dX8_plain_41 : decode cX8_plain 41 = .ok (.iadd, 1) := by decide +kernel
theorem dX8_plain_42 : decode cX8_plain 42 = .ok (.imul, 1) := by decide +kernel
theorem dX8_plain_43 : decode cX8_plain 43 = .ok (.iload_n 2, 1) := by decide +kernel
theorem dX8_plain_44 : decode cX8_plain 44 = .ok (.iadd, 1) := by decide +kernel
theorem dX8_plain_45 : decode cX8_plain 45 = .ok (.istore 4, 2) := by decide +kernel
theorem dX8_plain_47 : decode cX8_plain 47 = .ok (.aload_n 0, 1) := by decide +kernel
theorem dX8_plain_48 : decode cX8_plain 48 = .ok (.getfield 16, 3) := by decide +kernel
theorem dX8_plain_51 : decode cX8_plain 51 = .ok (.iload 4, 2) := by decide +kernel
theorem dX8_plain_53 : decode cX8_plain 53 = .ok (.iaload, 1) := by decide +kernel
theorem dX8_plain_54 : decode cX8_plain 54 = .ok (.ifCond .ne 5, 3) := by decide +kernel
theorem dX8_plain_57 : decode cX8_plain 57 = .ok (.iconst (-1), 1) := by decide +kernel
theorem dX8_plain_58 : decode cX8_plain 58 = .ok (.ireturn, 1) := by decide +kernel
theorem dX8_plain_59 : decode cX8_plain 59 = .ok (.aload_n 0, 1) := by decide +kernel
theorem dX8_plain_60 : decode cX8_plain 60 = .ok (.iload 4, 2) := by decide +kernel
theorem dX8_plain_62 : decode cX8_plain 62 = .ok (.invokevirtual 193, 3) := by decide +kernel
theorem dX8_plain_65 : decode cX8_plain 65 = .ok (.iload_n 3, 1) := by decide +kernel
theorem dX8_plain_66 : decode cX8_plain 66 = .ok (.aload_n 0, 1) := by decide +kernel
theorem dX8_plain_67 : decode cX8_plain 67 = .ok (.getfield 181, 3) := by decide +kernel
theorem dX8_plain_70 : decode cX8_plain 70 = .ok (.if_icmp .ge 12, 3) := by decide +kernel
theorem dX8_plain_73 : decode cX8_plain 73 = .ok (.aload_n 0, 1) := by decide +kernel
theorem dX8_plain_74 : decode cX8_plain 74 = .ok (.getfield 56, 3) := by decide +kernel
theorem dX8_plain_77 : decode cX8_plain 77 = .ok (.iload_n 3, 1) := by decide +kernel
theorem dX8_plain_78 : decode cX8_plain 78 = .ok (.iaload, 1) := by decide +kernel
theorem dX8_plain_79 : decode cX8_plain 79 = .ok (.goto 4, 3) := by decide +kernel
theorem dX8_plain_82 : decode cX8_plain 82 = .ok (.iconst (-1), 1) := by decide +kernel
theorem dX8_plain_83 : decode cX8_plain 83 = .ok (.ireturn, 1) := by decide +kernel
theorem dX8_isAnswer_0 : decode cX8_isAnswer 0 = .ok (.iload_n 1, 1) := by decide +kernel
theorem dX8_isAnswer_1 : decode cX8_isAnswer 1 = .ok (.iconst 0, 1) := by decide +kernel
theorem dX8_isAnswer_2 : decode cX8_isAnswer 2 = .ok (.aload_n 0, 1) := by decide +kernel
theorem dX8_isAnswer_3 : decode cX8_isAnswer 3 = .ok (.getfield 165, 3) := by decide +kernel
theorem dX8_isAnswer_6 : decode cX8_isAnswer 6 = .ok (.iconst 1, 1) := by decide +kernel
theorem dX8_isAnswer_7 : decode cX8_isAnswer 7 = .ok (.isub, 1) := by decide +kernel
theorem dX8_isAnswer_8 : decode cX8_isAnswer 8 = .ok (.invokestatic 69, 3) := by decide +kernel
theorem dX8_isAnswer_11 : decode cX8_isAnswer 11 = .ok (.ireturn, 1) := by decide +kernel
theorem dX8_begin_0 : decode cX8_begin 0 = .ok (.aload_n 0, 1) := by decide +kernel
theorem dX8_begin_1 : decode cX8_begin 1 = .ok (.aload_n 0, 1) := by decide +kernel
theorem dX8_begin_2 : decode cX8_begin 2 = .ok (.getfield 162, 3) := by decide +kernel
theorem dX8_begin_5 : decode cX8_begin 5 = .ok (.ifCond .eq 12, 3) := by decide +kernel
theorem dX8_begin_8 : decode cX8_begin 8 = .ok (.aload_n 0, 1) := by decide +kernel
theorem dX8_begin_9 : decode cX8_begin 9 = .ok (.getfield 165, 3) := by decide +kernel
theorem dX8_begin_12 : decode cX8_begin 12 = .ok (.bipush 20, 2) := by decide +kernel
theorem dX8_begin_14 : decode cX8_begin 14 = .ok (.if_icmp .ne 7, 3) := by decide +kernel
theorem dX8_begin_17 : decode cX8_begin 17 = .ok (.iconst 1, 1) := by decide +kernel
theorem dX8_begin_18 : decode cX8_begin 18 = .ok (.goto 4, 3) := by decide +kernel
theorem dX8_begin_21 : decode cX8_begin 21 = .ok (.iconst 0, 1) := by decide +kernel
theorem dX8_begin_22 : decode cX8_begin 22 = .ok (.putfield 66, 3) := by decide +kernel
theorem dX8_begin_25 : decode cX8_begin 25 = .ok (.aload_n 0, 1) := by decide +kernel
theorem dX8_begin_26 : decode cX8_begin 26 = .ok (.getfield 66, 3) := by decide +kernel
theorem dX8_begin_29 : decode cX8_begin 29 = .ok (.ifCond .le 5, 3) := by decide +kernel
theorem dX8_begin_32 : decode cX8_begin 32 = .ok (.iconst 0, 1) := by decide +kernel
theorem dX8_begin_33 : decode cX8_begin 33 = .ok (.ireturn, 1) := by decide +kernel
theorem dX8_begin_34 : decode cX8_begin 34 = .ok (.aload_n 0, 1) := by decide +kernel
theorem dX8_begin_35 : decode cX8_begin 35 = .ok (.getfield 25, 3) := by decide +kernel
theorem dX8_begin_38 : decode cX8_begin 38 = .ok (.aload_n 0, 1) := by decide +kernel
theorem dX8_begin_39 : decode cX8_begin 39 = .ok (.getfield 165, 3) := by decide +kernel
theorem dX8_begin_42 : decode cX8_begin 42 = .ok (.aload_n 0, 1) := by decide +kernel
theorem dX8_begin_43 : decode cX8_begin 43 = .ok (.getfield 162, 3) := by decide +kernel
theorem dX8_begin_46 : decode cX8_begin 46 = .ok (.iconst 1, 1) := by decide +kernel
theorem dX8_begin_47 : decode cX8_begin 47 = .ok (.isub, 1) := by decide +kernel
theorem dX8_begin_48 : decode cX8_begin 48 = .ok (.iastore, 1) := by decide +kernel
theorem dX8_begin_49 : decode cX8_begin 49 = .ok (.aload_n 0, 1) := by decide +kernel
theorem dX8_begin_50 : decode cX8_begin 50 = .ok (.dup, 1) := by decide +kernel
theorem dX8_begin_51 : decode cX8_begin 51 = .ok (.getfield 165, 3) := by decide +kernel
theorem dX8_begin_54 : decode cX8_begin 54 = .ok (.iconst 1, 1) := by decide +kernel
theorem dX8_begin_55 : decode cX8_begin 55 = .ok (.iadd, 1) := by decide +kernel
theorem dX8_begin_56 : decode cX8_begin 56 = .ok (.putfield 165, 3) := by decide +kernel
theorem dX8_begin_59 : decode cX8_begin 59 = .ok (.aload_n 0, 1) := by decide +kernel
theorem dX8_begin_60 : decode cX8_begin 60 = .ok (.getfield 165, 3) := by decide +kernel
theorem dX8_begin_63 : decode cX8_begin 63 = .ok (.iconst 1, 1) := by decide +kernel
theorem dX8_begin_64 : decode cX8_begin 64 = .ok (.isub, 1) := by decide +kernel
theorem dX8_begin_65 : decode cX8_begin 65 = .ok (.ireturn, 1) := by decide +kernel
theorem dX8_canPut_0 : decode cX8_canPut 0 = .ok (.aload_n 0, 1) := by decide +kernel
theorem dX8_canPut_1 : decode cX8_canPut 1 = .ok (.getfield 25, 3) := by decide +kernel
theorem dX8_canPut_4 : decode cX8_canPut 4 = .ok (.iload_n 1, 1) := by decide +kernel
theorem dX8_canPut_5 : decode cX8_canPut 5 = .ok (.iaload, 1) := by decide +kernel
theorem dX8_canPut_6 : decode cX8_canPut 6 = .ok (.istore_n 3, 1) := by decide +kernel
theorem dX8_canPut_7 : decode cX8_canPut 7 = .ok (.aload_n 0, 1) := by decide +kernel
theorem dX8_canPut_8 : decode cX8_canPut 8 = .ok (.iload_n 3, 1) := by decide +kernel
theorem dX8_canPut_9 : decode cX8_canPut 9 = .ok (.iload_n 2, 1) := by decide +kernel
theorem dX8_canPut_10 : decode cX8_canPut 10 = .ok (.invokevirtual 155, 3) := by decide +kernel
theorem dX8_canPut_13 : decode cX8_canPut 13 = .ok (.ifCond .eq 16, 3) := by decide +kernel
theorem dX8_canPut_16 : decode cX8_canPut 16 = .ok (.aload_n 0, 1) := by decide +kernel
theorem dX8_canPut_17 : decode cX8_canPut 17 = .ok (.iload_n 3, 1) := by decide +kernel
theorem dX8_canPut_18 : decode cX8_canPut 18 = .ok (.iload_n 2, 1) := by decide +kernel
theorem dX8_canPut_19 : decode cX8_canPut 19 = .ok (.invokevirtual 175, 3) := by decide +kernel
theorem dX8_canPut_22 : decode cX8_canPut 22 = .ok (.ifCond .ne 7, 3) := by decide +kernel
theorem dX8_canPut_25 : decode cX8_canPut 25 = .ok (.iconst 1, 1) := by decide +kernel
theorem dX8_canPut_26 : decode cX8_canPut 26 = .ok (.goto 4, 3) := by decide +kernel
theorem dX8_canPut_29 : decode cX8_canPut 29 = .ok (.iconst 0, 1) := by decide +kernel
theorem dX8_canPut_30 : decode cX8_canPut 30 = .ok (.ireturn, 1) := by decide +kernel
theorem dX8_isRight_0 : decode cX8_isRight 0 = .ok (.aload_n 0, 1) := by decide +kernel
theorem dX8_isRight_1 : decode cX8_isRight 1 = .ok (.aload_n 0, 1) := by decide +kernel
theorem dX8_isRight_2 : decode cX8_isRight 2 = .ok (.getfield 25, 3) := by decide +kernel
theorem dX8_isRight_5 : decode cX8_isRight 5 = .ok (.iload_n 1, 1) := by decide +kernel
theorem dX8_isRight_6 : decode cX8_isRight 6 = .ok (.iaload, 1) := by decide +kernel
theorem dX8_isRight_7 : decode cX8_isRight 7 = .ok (.iload_n 2, 1) := by decide +kernel
theorem dX8_isRight_8 : decode cX8_isRight 8 = .ok (.invokevirtual 155, 3) := by decide +kernel
theorem dX8_isRight_11 : decode cX8_isRight 11 = .ok (.istore 4, 2) := by decide +kernel
theorem dX8_isRight_13 : decode cX8_isRight 13 = .ok (.iload 4, 2) := by decide +kernel
theorem dX8_isRight_15 : decode cX8_isRight 15 = .ok (.iconst 1, 1) := by decide +kernel
theorem dX8_isRight_16 : decode cX8_isRight 16 = .ok (.if_icmp .ne 16, 3) := by decide +kernel
theorem dX8_isRight_19 : decode cX8_isRight 19 = .ok (.iload_n 3, 1) := by decide +kernel
theorem dX8_isRight_20 : decode cX8_isRight 20 = .ok (.sipush (-999), 3) := by decide +kernel
theorem dX8_isRight_23 : decode cX8_isRight 23 = .ok (.sipush 999, 3) := by decide +kernel
theorem dX8_isRight_26 : decode cX8_isRight 26 = .ok (.invokestatic 69, 3) := by decide +kernel
theorem dX8_isRight_29 : decode cX8_isRight 29 = .ok (.goto 25, 3) := by decide +kernel
theorem dX8_isRight_32 : decode cX8_isRight 32 = .ok (.iload 4, 2) := by decide +kernel
theorem dX8_isRight_34 : decode cX8_isRight 34 = .ok (.iconst 2, 1) := by decide +kernel
theorem dX8_isRight_35 : decode cX8_isRight 35 = .ok (.if_icmp .ne 12, 3) := by decide +kernel
theorem dX8_isRight_38 : decode cX8_isRight 38 = .ok (.iload_n 3, 1) := by decide +kernel
theorem dX8_isRight_39 : decode cX8_isRight 39 = .ok (.iconst 0, 1) := by decide +kernel
theorem dX8_isRight_40 : decode cX8_isRight 40 = .ok (.iconst 1, 1) := by decide +kernel
theorem dX8_isRight_41 : decode cX8_isRight 41 = .ok (.invokestatic 69, 3) := by decide +kernel
theorem dX8_isRight_44 : decode cX8_isRight 44 = .ok (.goto 10, 3) := by decide +kernel
theorem dX8_isRight_47 : decode cX8_isRight 47 = .ok (.iload_n 3, 1) := by decide +kernel
theorem dX8_isRight_48 : decode cX8_isRight 48 = .ok (.iconst 0, 1) := by decide +kernel
theorem dX8_isRight_49 : decode cX8_isRight 49 = .ok (.bipush 9, 2) := by decide +kernel
theorem dX8_isRight_51 : decode cX8_isRight 51 = .ok (.invokestatic 69, 3) := by decide +kernel
theorem dX8_isRight_54 : decode cX8_isRight 54 = .ok (.ireturn, 1) := by decide +kernel
theorem dX8_lacking_0 : decode cX8_lacking 0 = .ok (.iconst 0, 1) := by decide +kernel
theorem dX8_lacking_1 : decode cX8_lacking 1 = .ok (.istore_n 2, 1) := by decide +kernel
theorem dX8_lacking_2 : decode cX8_lacking 2 = .ok (.iconst 0, 1) := by decide +kernel
theorem dX8_lacking_3 : decode cX8_lacking 3 = .ok (.istore_n 3, 1) := by decide +kernel
theorem dX8_lacking_4 : decode cX8_lacking 4 = .ok (.iload_n 3, 1) := by decide +kernel
theorem dX8_lacking_5 : decode cX8_lacking 5 = .ok (.bipush 6, 2) := by decide +kernel
theorem dX8_lacking_7 : decode cX8_lacking 7 = .ok (.if_icmp .ge 40, 3) := by decide +kernel
theorem dX8_lacking_10 : decode cX8_lacking 10 = .ok (.iload_n 2, 1) := by decide +kernel
theorem dX8_lacking_11 : decode cX8_lacking 11 = .ok (.aload_n 0, 1) := by decide +kernel
theorem dX8_lacking_12 : decode cX8_lacking 12 = .ok (.iload_n 1, 1) := by decide +kernel
theorem dX8_lacking_13 : decode cX8_lacking 13 = .ok (.iload_n 3, 1) := by decide +kernel
theorem dX8_lacking_14 : decode cX8_lacking 14 = .ok (.invokevirtual 196, 3) := by decide +kernel
theorem dX8_lacking_17 : decode cX8_lacking 17 = .ok (.ifCond .eq 21, 3) := by decide +kernel
theorem dX8_lacking_20 : decode cX8_lacking 20 = .ok (.aload_n 0, 1) := by decide +kernel
theorem dX8_lacking_21 : decode cX8_lacking 21 = .ok (.getfield 31, 3) := by decide +kernel
theorem dX8_lacking_24 : decode cX8_lacking 24 = .ok (.bipush 6, 2) := by decide +kernel
theorem dX8_lacking_26 : decode cX8_lacking 26 = .ok (.iload_n 1, 1) := by decide +kernel
theorem dX8_lacking_27 : decode cX8_lacking 27 = .ok (.imul, 1) := by decide +kernel
theorem dX8_lacking_28 : decode cX8_lacking 28 = .ok (.iload_n 3, 1) := by decide +kernel
theorem dX8_lacking_29 : decode cX8_lacking 29 = .ok (.iadd, 1) := by decide +kernel
theorem dX8_lacking_30 : decode cX8_lacking 30 = .ok (.baload, 1) := by decide +kernel
theorem dX8_lacking_31 : decode cX8_lacking 31 = .ok (.ifCond .ne 7, 3) := by decide +kernel
theorem dX8_lacking_34 : decode cX8_lacking 34 = .ok (.iconst 1, 1) := by decide +kernel
theorem dX8_lacking_35 : decode cX8_lacking 35 = .ok (.goto 4, 3) := by decide +kernel
theorem dX8_lacking_38 : decode cX8_lacking 38 = .ok (.iconst 0, 1) := by decide +kernel
theorem dX8_lacking_39 : decode cX8_lacking 39 = .ok (.iadd, 1) := by decide +kernel
theorem dX8_lacking_40 : decode cX8_lacking 40 = .ok (.istore_n 2, 1) := by decide +kernel
theorem dX8_lacking_41 : decode cX8_lacking 41 = .ok (.iinc 3 1, 3) := by decide +kernel
theorem dX8_lacking_44 : decode cX8_lacking 44 = .ok (.goto (-40), 3) := by decide +kernel
theorem dX8_lacking_47 : decode cX8_lacking 47 = .ok (.iload_n 2, 1) := by decide +kernel
theorem dX8_lacking_48 : decode cX8_lacking 48 = .ok (.ireturn, 1) := by decide +kernel
theorem dX8_areOne_0 : decode cX8_areOne 0 = .ok (.aload_n 0, 1) := by decide +kernel
theorem dX8_areOne_1 : decode cX8_areOne 1 = .ok (.iload_n 1, 1) := by decide +kernel
theorem dX8_areOne_2 : decode cX8_areOne 2 = .ok (.invokevirtual 199, 3) := by decide +kernel
theorem dX8_areOne_5 : decode cX8_areOne 5 = .ok (.ifCond .eq 14, 3) := by decide +kernel
theorem dX8_areOne_8 : decode cX8_areOne 8 = .ok (.iload_n 2, 1) := by decide +kernel
theorem dX8_areOne_9 : decode cX8_areOne 9 = .ok (.invokestatic 139, 3) := by decide +kernel
theorem dX8_areOne_12 : decode cX8_areOne 12 = .ok (.ifCond .eq 7, 3) := by decide +kernel
theorem dX8_areOne_15 : decode cX8_areOne 15 = .ok (.iconst 1, 1) := by decide +kernel
theorem dX8_areOne_16 : decode cX8_areOne 16 = .ok (.goto 4, 3) := by decide +kernel
theorem dX8_areOne_19 : decode cX8_areOne 19 = .ok (.iconst 0, 1) := by decide +kernel
theorem dX8_areOne_20 : decode cX8_areOne 20 = .ok (.ireturn, 1) := by decide +kernel
theorem dX8_put_0 : decode cX8_put 0 = .ok (.aload_n 0, 1) := by decide +kernel
theorem dX8_put_1 : decode cX8_put 1 = .ok (.aload_n 0, 1) := by decide +kernel
theorem dX8_put_2 : decode cX8_put 2 = .ok (.iload_n 1, 1) := by decide +kernel
theorem dX8_put_3 : decode cX8_put 3 = .ok (.iload_n 2, 1) := by decide +kernel
theorem dX8_put_4 : decode cX8_put 4 = .ok (.invokevirtual 202, 3) := by decide +kernel
theorem dX8_put_7 : decode cX8_put 7 = .ok (.ifCond .ne 7, 3) := by decide +kernel
theorem dX8_put_10 : decode cX8_put 10 = .ok (.iconst 1, 1) := by decide +kernel
theorem dX8_put_11 : decode cX8_put 11 = .ok (.goto 40, 3) := by decide +kernel
theorem dX8_put_14 : decode cX8_put 14 = .ok (.aload_n 0, 1) := by decide +kernel
theorem dX8_put_15 : decode cX8_put 15 = .ok (.getfield 22, 3) := by decide +kernel
theorem dX8_put_18 : decode cX8_put 18 = .ok (.iload_n 1, 1) := by decide +kernel
theorem dX8_put_19 : decode cX8_put 19 = .ok (.iaload, 1) := by decide +kernel
theorem dX8_put_20 : decode cX8_put 20 = .ok (.ifCond .ne 12, 3) := by decide +kernel
theorem dX8_put_23 : decode cX8_put 23 = .ok (.aload_n 0, 1) := by decide +kernel
theorem dX8_put_24 : decode cX8_put 24 = .ok (.iload_n 1, 1) := by decide +kernel
theorem dX8_put_25 : decode cX8_put 25 = .ok (.iload_n 2, 1) := by decide +kernel
theorem dX8_put_26 : decode cX8_put 26 = .ok (.invokevirtual 196, 3) := by decide +kernel
theorem dX8_put_29 : decode cX8_put 29 = .ok (.ifCond .ne 7, 3) := by decide +kernel
theorem dX8_put_32 : decode cX8_put 32 = .ok (.iconst 2, 1) := by decide +kernel
theorem dX8_put_33 : decode cX8_put 33 = .ok (.goto 18, 3) := by decide +kernel
theorem dX8_put_36 : decode cX8_put 36 = .ok (.aload_n 0, 1) := by decide +kernel
theorem dX8_put_37 : decode cX8_put 37 = .ok (.iload_n 1, 1) := by decide +kernel
theorem dX8_put_38 : decode cX8_put 38 = .ok (.iload_n 2, 1) := by decide +kernel
theorem dX8_put_39 : decode cX8_put 39 = .ok (.iload_n 3, 1) := by decide +kernel
theorem dX8_put_40 : decode cX8_put 40 = .ok (.invokevirtual 205, 3) := by decide +kernel
theorem dX8_put_43 : decode cX8_put 43 = .ok (.ifCond .ne 7, 3) := by decide +kernel
theorem dX8_put_46 : decode cX8_put 46 = .ok (.iconst 3, 1) := by decide +kernel
theorem dX8_put_47 : decode cX8_put 47 = .ok (.goto 4, 3) := by decide +kernel
theorem dX8_put_50 : decode cX8_put 50 = .ok (.iconst 0, 1) := by decide +kernel
theorem dX8_put_51 : decode cX8_put 51 = .ok (.putfield 66, 3) := by decide +kernel
theorem dX8_put_54 : decode cX8_put 54 = .ok (.aload_n 0, 1) := by decide +kernel
theorem dX8_put_55 : decode cX8_put 55 = .ok (.getfield 66, 3) := by decide +kernel
theorem dX8_put_58 : decode cX8_put 58 = .ok (.ifCond .le 5, 3) := by decide +kernel
theorem dX8_put_61 : decode cX8_put 61 = .ok (.iconst 0, 1) := by decide +kernel
theorem dX8_put_62 : decode cX8_put 62 = .ok (.ireturn, 1) := by decide +kernel
theorem dX8_put_63 : decode cX8_put 63 = .ok (.aload_n 0, 1) := by decide +kernel
theorem dX8_put_64 : decode cX8_put 64 = .ok (.getfield 28, 3) := by decide +kernel
theorem dX8_put_67 : decode cX8_put 67 = .ok (.bipush 6, 2) := by decide +kernel
theorem dX8_put_69 : decode cX8_put 69 = .ok (.iload_n 1, 1) := by decide +kernel
theorem dX8_put_70 : decode cX8_put 70 = .ok (.imul, 1) := by decide +kernel
theorem dX8_put_71 : decode cX8_put 71 = .ok (.iload_n 2, 1) := by decide +kernel
theorem dX8_put_72 : decode cX8_put 72 = .ok (.iadd, 1) := by decide +kernel
theorem dX8_put_73 : decode cX8_put 73 = .ok (.iload_n 3, 1) := by decide +kernel
theorem dX8_put_74 : decode cX8_put 74 = .ok (.iastore, 1) := by decide +kernel
theorem dX8_put_75 : decode cX8_put 75 = .ok (.aload_n 0, 1) := by decide +kernel
theorem dX8_put_76 : decode cX8_put 76 = .ok (.getfield 31, 3) := by decide +kernel
theorem dX8_put_79 : decode cX8_put 79 = .ok (.bipush 6, 2) := by decide +kernel
theorem dX8_put_81 : decode cX8_put 81 = .ok (.iload_n 1, 1) := by decide +kernel
theorem dX8_put_82 : decode cX8_put 82 = .ok (.imul, 1) := by decide +kernel
theorem dX8_put_83 : decode cX8_put 83 = .ok (.iload_n 2, 1) := by decide +kernel
theorem dX8_put_84 : decode cX8_put 84 = .ok (.iadd, 1) := by decide +kernel
theorem dX8_put_85 : decode cX8_put 85 = .ok (.iconst 1, 1) := by decide +kernel
theorem dX8_put_86 : decode cX8_put 86 = .ok (.bastore, 1) := by decide +kernel
theorem dX8_put_87 : decode cX8_put 87 = .ok (.aload_n 0, 1) := by decide +kernel
theorem dX8_put_88 : decode cX8_put 88 = .ok (.iload_n 1, 1) := by decide +kernel
theorem dX8_put_89 : decode cX8_put 89 = .ok (.invokevirtual 208, 3) := by decide +kernel
theorem dX8_put_92 : decode cX8_put 92 = .ok (.ireturn, 1) := by decide +kernel
theorem dX8_compute_0 : decode cX8_compute 0 = .ok (.aload_n 0, 1) := by decide +kernel
theorem dX8_compute_1 : decode cX8_compute 1 = .ok (.aload_n 0, 1) := by decide +kernel
theorem dX8_compute_2 : decode cX8_compute 2 = .ok (.getfield 25, 3) := by decide +kernel
theorem dX8_compute_5 : decode cX8_compute 5 = .ok (.iload_n 1, 1) := by decide +kernel
theorem dX8_compute_6 : decode cX8_compute 6 = .ok (.iaload, 1) := by decide +kernel
theorem dX8_compute_7 : decode cX8_compute 7 = .ok (.invokevirtual 178, 3) := by decide +kernel
theorem dX8_compute_10 : decode cX8_compute 10 = .ok (.istore_n 2, 1) := by decide +kernel
theorem dX8_compute_11 : decode cX8_compute 11 = .ok (.iconst 0, 1) := by decide +kernel
theorem dX8_compute_12 : decode cX8_compute 12 = .ok (.istore_n 3, 1) := by decide +kernel
theorem dX8_compute_13 : decode cX8_compute 13 = .ok (.iload_n 3, 1) := by decide +kernel
theorem dX8_compute_14 : decode cX8_compute 14 = .ok (.iload_n 2, 1) := by decide +kernel
theorem dX8_compute_15 : decode cX8_compute 15 = .ok (.if_icmp .ge 53, 3) := by decide +kernel
theorem dX8_compute_18 : decode cX8_compute 18 = .ok (.aload_n 0, 1) := by decide +kernel
theorem dX8_compute_19 : decode cX8_compute 19 = .ok (.getfield 28, 3) := by decide +kernel
theorem dX8_compute_22 : decode cX8_compute 22 = .ok (.bipush 6, 2) := by decide +kernel
theorem dX8_compute_24 : decode cX8_compute 24 = .ok (.iload_n 1, 1) := by decide +kernel
theorem dX8_compute_25 : decode cX8_compute 25 = .ok (.imul, 1) := by decide +kernel
theorem dX8_compute_26 : decode cX8_compute 26 = .ok (.aload_n 0, 1) := by decide +kernel
theorem dX8_compute_27 : decode cX8_compute 27 = .ok (.getfield 53, 3) := by decide +kernel
theorem dX8_compute_30 : decode cX8_compute 30 = .ok (.iload_n 3, 1) := by decide +kernel
theorem dX8_compute_31 : decode cX8_compute 31 = .ok (.iaload, 1) := by decide +kernel
theorem dX8_compute_32 : decode cX8_compute 32 = .ok (.iadd, 1) := by decide +kernel
theorem dX8_compute_33 : decode cX8_compute 33 = .ok (.aload_n 0, 1) := by decide +kernel
theorem dX8_compute_34 : decode cX8_compute 34 = .ok (.iload_n 1, 1) := by decide +kernel
theorem dX8_compute_35 : decode cX8_compute 35 = .ok (.aload_n 0, 1) := by decide +kernel
theorem dX8_compute_36 : decode cX8_compute 36 = .ok (.getfield 53, 3) := by decide +kernel
theorem dX8_compute_39 : decode cX8_compute 39 = .ok (.iload_n 3, 1) := by decide +kernel
theorem dX8_compute_40 : decode cX8_compute 40 = .ok (.iaload, 1) := by decide +kernel
theorem dX8_compute_41 : decode cX8_compute 41 = .ok (.invokevirtual 211, 3) := by decide +kernel
theorem dX8_compute_44 : decode cX8_compute 44 = .ok (.iastore, 1) := by decide +kernel
theorem dX8_compute_45 : decode cX8_compute 45 = .ok (.aload_n 0, 1) := by decide +kernel
theorem dX8_compute_46 : decode cX8_compute 46 = .ok (.getfield 31, 3) := by decide +kernel
theorem dX8_compute_49 : decode cX8_compute 49 = .ok (.bipush 6, 2) := by decide +kernel
theorem dX8_compute_51 : decode cX8_compute 51 = .ok (.iload_n 1, 1) := by decide +kernel
theorem dX8_compute_52 : decode cX8_compute 52 = .ok (.imul, 1) := by decide +kernel
theorem dX8_compute_53 : decode cX8_compute 53 = .ok (.aload_n 0, 1) := by decide +kernel
theorem dX8_compute_54 : decode cX8_compute 54 = .ok (.getfield 53, 3) := by decide +kernel
theorem dX8_compute_57 : decode cX8_compute 57 = .ok (.iload_n 3, 1) := by decide +kernel
theorem dX8_compute_58 : decode cX8_compute 58 = .ok (.iaload, 1) := by decide +kernel
theorem dX8_compute_59 : decode cX8_compute 59 = .ok (.iadd, 1) := by decide +kernel
theorem dX8_compute_60 : decode cX8_compute 60 = .ok (.iconst 1, 1) := by decide +kernel
theorem dX8_compute_61 : decode cX8_compute 61 = .ok (.bastore, 1) := by decide +kernel
theorem dX8_compute_62 : decode cX8_compute 62 = .ok (.iinc 3 1, 3) := by decide +kernel
theorem dX8_compute_65 : decode cX8_compute 65 = .ok (.goto (-52), 3) := by decide +kernel
theorem dX8_compute_68 : decode cX8_compute 68 = .ok (.return_, 1) := by decide +kernel
theorem dX8_refusing_0 : decode cX8_refusing 0 = .ok (.bipush 6, 2) := by decide +kernel
theorem dX8_refusing_2 : decode cX8_refusing 2 = .ok (.istore_n 2, 1) := by decide +kernel
theorem dX8_refusing_3 : decode cX8_refusing 3 = .ok (.iload_n 2, 1) := by decide +kernel
theorem dX8_refusing_4 : decode cX8_refusing 4 = .ok (.bipush 10, 2) := by decide +kernel
theorem dX8_refusing_6 : decode cX8_refusing 6 = .ok (.if_icmp .ge 41, 3) := by decide +kernel
theorem dX8_refusing_9 : decode cX8_refusing 9 = .ok (.aload_n 0, 1) := by decide +kernel
theorem dX8_refusing_10 : decode cX8_refusing 10 = .ok (.getfield 16, 3) := by decide +kernel
theorem dX8_refusing_13 : decode cX8_refusing 13 = .ok (.bipush 10, 2) := by decide +kernel
theorem dX8_refusing_15 : decode cX8_refusing 15 = .ok (.aload_n 0, 1) := by decide +kernel
theorem dX8_refusing_16 : decode cX8_refusing 16 = .ok (.getfield 25, 3) := by decide +kernel
theorem dX8_refusing_19 : decode cX8_refusing 19 = .ok (.iload_n 1, 1) := by decide +kernel
theorem dX8_refusing_20 : decode cX8_refusing 20 = .ok (.iaload, 1) := by decide +kernel
theorem dX8_refusing_21 : decode cX8_refusing 21 = .ok (.iconst 1, 1) := by decide +kernel
theorem dX8_refusing_22 : decode cX8_refusing 22 = .ok (.iadd, 1) := by decide +kernel
theorem dX8_refusing_23 : decode cX8_refusing 23 = .ok (.imul, 1) := by decide +kernel
theorem dX8_refusing_24 : decode cX8_refusing 24 = .ok (.iload_n 2, 1) := by decide +kernel
theorem dX8_refusing_25 : decode cX8_refusing 25 = .ok (.iadd, 1) := by decide +kernel
theorem dX8_refusing_26 : decode cX8_refusing 26 = .ok (.iaload, 1) := by decide +kernel
theorem dX8_refusing_27 : decode cX8_refusing 27 = .ok (.ifCond .le 14, 3) := by decide +kernel
theorem dX8_refusing_30 : decode cX8_refusing 30 = .ok (.aload_n 0, 1) := by decide +kernel
theorem dX8_refusing_31 : decode cX8_refusing 31 = .ok (.iload_n 1, 1) := by decide +kernel
theorem dX8_refusing_32 : decode cX8_refusing 32 = .ok (.iload_n 2, 1) := by decide +kernel
theorem dX8_refusing_33 : decode cX8_refusing 33 = .ok (.invokevirtual 211, 3) := by decide +kernel
theorem dX8_refusing_36 : decode cX8_refusing 36 = .ok (.ifCond .ne 5, 3) := by decide +kernel
theorem dX8_refusing_39 : decode cX8_refusing 39 = .ok (.iload_n 2, 1) := by decide +kernel
theorem dX8_refusing_40 : decode cX8_refusing 40 = .ok (.ireturn, 1) := by decide +kernel
theorem dX8_refusing_41 : decode cX8_refusing 41 = .ok (.iinc 2 1, 3) := by decide +kernel
theorem dX8_refusing_44 : decode cX8_refusing 44 = .ok (.goto (-41), 3) := by decide +kernel
theorem dX8_refusing_47 : decode cX8_refusing 47 = .ok (.iconst (-1), 1) := by decide +kernel
theorem dX8_refusing_48 : decode cX8_refusing 48 = .ok (.ireturn, 1) := by decide +kernel
theorem dX8_judge_0 : decode cX8_judge 0 = .ok (.aload_n 0, 1) := by decide +kernel
theorem dX8_judge_1 : decode cX8_judge 1 = .ok (.iload_n 1, 1) := by decide +kernel
theorem dX8_judge_2 : decode cX8_judge 2 = .ok (.invokevirtual 214, 3) := by decide +kernel
theorem dX8_judge_5 : decode cX8_judge 5 = .ok (.aload_n 0, 1) := by decide +kernel
theorem dX8_judge_6 : decode cX8_judge 6 = .ok (.getfield 22, 3) := by decide +kernel
theorem dX8_judge_9 : decode cX8_judge 9 = .ok (.iload_n 1, 1) := by decide +kernel
theorem dX8_judge_10 : decode cX8_judge 10 = .ok (.aload_n 0, 1) := by decide +kernel
theorem dX8_judge_11 : decode cX8_judge 11 = .ok (.iload_n 1, 1) := by decide +kernel
theorem dX8_judge_12 : decode cX8_judge 12 = .ok (.invokevirtual 217, 3) := by decide +kernel
theorem dX8_judge_15 : decode cX8_judge 15 = .ok (.iconst (-1), 1) := by decide +kernel
theorem dX8_judge_16 : decode cX8_judge 16 = .ok (.if_icmp .eq 7, 3) := by decide +kernel
theorem dX8_judge_19 : decode cX8_judge 19 = .ok (.iconst 2, 1) := by decide +kernel
theorem dX8_judge_20 : decode cX8_judge 20 = .ok (.goto 17, 3) := by decide +kernel
theorem dX8_judge_23 : decode cX8_judge 23 = .ok (.aload_n 0, 1) := by decide +kernel
theorem dX8_judge_24 : decode cX8_judge 24 = .ok (.getfield 35, 3) := by decide +kernel
theorem dX8_judge_27 : decode cX8_judge 27 = .ok (.iload_n 1, 1) := by decide +kernel
theorem dX8_judge_28 : decode cX8_judge 28 = .ok (.iaload, 1) := by decide +kernel
theorem dX8_judge_29 : decode cX8_judge 29 = .ok (.ifCond .le 7, 3) := by decide +kernel
theorem dX8_judge_32 : decode cX8_judge 32 = .ok (.iconst 3, 1) := by decide +kernel
theorem dX8_judge_33 : decode cX8_judge 33 = .ok (.goto 4, 3) := by decide +kernel
theorem dX8_judge_36 : decode cX8_judge 36 = .ok (.iconst 1, 1) := by decide +kernel
theorem dX8_judge_37 : decode cX8_judge 37 = .ok (.iastore, 1) := by decide +kernel
theorem dX8_judge_38 : decode cX8_judge 38 = .ok (.aload_n 0, 1) := by decide +kernel
theorem dX8_judge_39 : decode cX8_judge 39 = .ok (.getfield 22, 3) := by decide +kernel
theorem dX8_judge_42 : decode cX8_judge 42 = .ok (.iload_n 1, 1) := by decide +kernel
theorem dX8_judge_43 : decode cX8_judge 43 = .ok (.iaload, 1) := by decide +kernel
theorem dX8_judge_44 : decode cX8_judge 44 = .ok (.ireturn, 1) := by decide +kernel
theorem dX8_handIn_0 : decode cX8_handIn 0 = .ok (.aload_n 0, 1) := by decide +kernel
theorem dX8_handIn_1 : decode cX8_handIn 1 = .ok (.aload_n 0, 1) := by decide +kernel
theorem dX8_handIn_2 : decode cX8_handIn 2 = .ok (.iload_n 1, 1) := by decide +kernel
theorem dX8_handIn_3 : decode cX8_handIn 3 = .ok (.invokevirtual 199, 3) := by decide +kernel
theorem dX8_handIn_6 : decode cX8_handIn 6 = .ok (.ifCond .ne 7, 3) := by decide +kernel
theorem dX8_handIn_9 : decode cX8_handIn 9 = .ok (.iconst 1, 1) := by decide +kernel
theorem dX8_handIn_10 : decode cX8_handIn 10 = .ok (.goto 25, 3) := by decide +kernel
theorem dX8_handIn_13 : decode cX8_handIn 13 = .ok (.aload_n 0, 1) := by decide +kernel
theorem dX8_handIn_14 : decode cX8_handIn 14 = .ok (.getfield 22, 3) := by decide +kernel
theorem dX8_handIn_17 : decode cX8_handIn 17 = .ok (.iload_n 1, 1) := by decide +kernel
theorem dX8_handIn_18 : decode cX8_handIn 18 = .ok (.iaload, 1) := by decide +kernel
theorem dX8_handIn_19 : decode cX8_handIn 19 = .ok (.ifCond .ne 11, 3) := by decide +kernel
theorem dX8_handIn_22 : decode cX8_handIn 22 = .ok (.aload_n 0, 1) := by decide +kernel
theorem dX8_handIn_23 : decode cX8_handIn 23 = .ok (.iload_n 1, 1) := by decide +kernel
theorem dX8_handIn_24 : decode cX8_handIn 24 = .ok (.invokevirtual 208, 3) := by decide +kernel
theorem dX8_handIn_27 : decode cX8_handIn 27 = .ok (.ifCond .le 7, 3) := by decide +kernel
theorem dX8_handIn_30 : decode cX8_handIn 30 = .ok (.iconst 2, 1) := by decide +kernel
theorem dX8_handIn_31 : decode cX8_handIn 31 = .ok (.goto 4, 3) := by decide +kernel
theorem dX8_handIn_34 : decode cX8_handIn 34 = .ok (.iconst 0, 1) := by decide +kernel
theorem dX8_handIn_35 : decode cX8_handIn 35 = .ok (.putfield 66, 3) := by decide +kernel
theorem dX8_handIn_38 : decode cX8_handIn 38 = .ok (.aload_n 0, 1) := by decide +kernel
theorem dX8_handIn_39 : decode cX8_handIn 39 = .ok (.getfield 66, 3) := by decide +kernel
theorem dX8_handIn_42 : decode cX8_handIn 42 = .ok (.ifCond .ne 11, 3) := by decide +kernel
theorem dX8_handIn_45 : decode cX8_handIn 45 = .ok (.aload_n 0, 1) := by decide +kernel
theorem dX8_handIn_46 : decode cX8_handIn 46 = .ok (.iload_n 1, 1) := by decide +kernel
theorem dX8_handIn_47 : decode cX8_handIn 47 = .ok (.invokevirtual 220, 3) := by decide +kernel
theorem dX8_handIn_50 : decode cX8_handIn 50 = .ok (.goto 4, 3) := by decide +kernel
theorem dX8_handIn_53 : decode cX8_handIn 53 = .ok (.iconst 0, 1) := by decide +kernel
theorem dX8_handIn_54 : decode cX8_handIn 54 = .ok (.ireturn, 1) := by decide +kernel
theorem dX8_answers_0 : decode cX8_answers 0 = .ok (.aload_n 0, 1) := by decide +kernel
theorem dX8_answers_1 : decode cX8_answers 1 = .ok (.iconst 0, 1) := by decide +kernel
theorem dX8_answers_2 : decode cX8_answers 2 = .ok (.putfield 66, 3) := by decide +kernel
theorem dX8_answers_5 : decode cX8_answers 5 = .ok (.aload_n 0, 1) := by decide +kernel
theorem dX8_answers_6 : decode cX8_answers 6 = .ok (.getfield 165, 3) := by decide +kernel
theorem dX8_answers_9 : decode cX8_answers 9 = .ok (.ireturn, 1) := by decide +kernel
theorem dX8_asksFor_0 : decode cX8_asksFor 0 = .ok (.aload_n 0, 1) := by decide +kernel
theorem dX8_asksFor_1 : decode cX8_asksFor 1 = .ok (.aload_n 0, 1) := by decide +kernel
theorem dX8_asksFor_2 : decode cX8_asksFor 2 = .ok (.iload_n 1, 1) := by decide +kernel
theorem dX8_asksFor_3 : decode cX8_asksFor 3 = .ok (.invokevirtual 199, 3) := by decide +kernel
theorem dX8_asksFor_6 : decode cX8_asksFor 6 = .ok (.ifCond .eq 7, 3) := by decide +kernel
theorem dX8_asksFor_9 : decode cX8_asksFor 9 = .ok (.iconst 0, 1) := by decide +kernel
theorem dX8_asksFor_10 : decode cX8_asksFor 10 = .ok (.goto 4, 3) := by decide +kernel
theorem dX8_asksFor_13 : decode cX8_asksFor 13 = .ok (.iconst 1, 1) := by decide +kernel
theorem dX8_asksFor_14 : decode cX8_asksFor 14 = .ok (.putfield 66, 3) := by decide +kernel
theorem dX8_asksFor_17 : decode cX8_asksFor 17 = .ok (.aload_n 0, 1) := by decide +kernel
theorem dX8_asksFor_18 : decode cX8_asksFor 18 = .ok (.getfield 66, 3) := by decide +kernel
theorem dX8_asksFor_21 : decode cX8_asksFor 21 = .ok (.ifCond .ne 7, 3) := by decide +kernel
theorem dX8_asksFor_24 : decode cX8_asksFor 24 = .ok (.iconst 1, 1) := by decide +kernel
theorem dX8_asksFor_25 : decode cX8_asksFor 25 = .ok (.goto 4, 3) := by decide +kernel
theorem dX8_asksFor_28 : decode cX8_asksFor 28 = .ok (.iconst 0, 1) := by decide +kernel
theorem dX8_asksFor_29 : decode cX8_asksFor 29 = .ok (.ireturn, 1) := by decide +kernel
theorem dX8_stateOf_0 : decode cX8_stateOf 0 = .ok (.aload_n 0, 1) := by decide +kernel
theorem dX8_stateOf_1 : decode cX8_stateOf 1 = .ok (.iload_n 1, 1) := by decide +kernel
theorem dX8_stateOf_2 : decode cX8_stateOf 2 = .ok (.invokevirtual 223, 3) := by decide +kernel
theorem dX8_stateOf_5 : decode cX8_stateOf 5 = .ok (.ifCond .eq 12, 3) := by decide +kernel
theorem dX8_stateOf_8 : decode cX8_stateOf 8 = .ok (.aload_n 0, 1) := by decide +kernel
theorem dX8_stateOf_9 : decode cX8_stateOf 9 = .ok (.getfield 22, 3) := by decide +kernel
theorem dX8_stateOf_12 : decode cX8_stateOf 12 = .ok (.iload_n 1, 1) := by decide +kernel
theorem dX8_stateOf_13 : decode cX8_stateOf 13 = .ok (.iaload, 1) := by decide +kernel
theorem dX8_stateOf_14 : decode cX8_stateOf 14 = .ok (.goto 4, 3) := by decide +kernel
theorem dX8_stateOf_17 : decode cX8_stateOf 17 = .ok (.iconst 0, 1) := by decide +kernel
theorem dX8_stateOf_18 : decode cX8_stateOf 18 = .ok (.ireturn, 1) := by decide +kernel
theorem dX8_versionOf_0 : decode cX8_versionOf 0 = .ok (.aload_n 0, 1) := by decide +kernel
theorem dX8_versionOf_1 : decode cX8_versionOf 1 = .ok (.iload_n 1, 1) := by decide +kernel
theorem dX8_versionOf_2 : decode cX8_versionOf 2 = .ok (.invokevirtual 223, 3) := by decide +kernel
theorem dX8_versionOf_5 : decode cX8_versionOf 5 = .ok (.ifCond .eq 12, 3) := by decide +kernel
theorem dX8_versionOf_8 : decode cX8_versionOf 8 = .ok (.aload_n 0, 1) := by decide +kernel
theorem dX8_versionOf_9 : decode cX8_versionOf 9 = .ok (.getfield 25, 3) := by decide +kernel
theorem dX8_versionOf_12 : decode cX8_versionOf 12 = .ok (.iload_n 1, 1) := by decide +kernel
theorem dX8_versionOf_13 : decode cX8_versionOf 13 = .ok (.iaload, 1) := by decide +kernel
theorem dX8_versionOf_14 : decode cX8_versionOf 14 = .ok (.goto 4, 3) := by decide +kernel
theorem dX8_versionOf_17 : decode cX8_versionOf 17 = .ok (.iconst 0, 1) := by decide +kernel
theorem dX8_versionOf_18 : decode cX8_versionOf 18 = .ok (.ireturn, 1) := by decide +kernel
theorem dX8_value_0 : decode cX8_value 0 = .ok (.aload_n 0, 1) := by decide +kernel
theorem dX8_value_1 : decode cX8_value 1 = .ok (.aload_n 0, 1) := by decide +kernel
theorem dX8_value_2 : decode cX8_value 2 = .ok (.iload_n 1, 1) := by decide +kernel
theorem dX8_value_3 : decode cX8_value 3 = .ok (.iload_n 2, 1) := by decide +kernel
theorem dX8_value_4 : decode cX8_value 4 = .ok (.invokevirtual 202, 3) := by decide +kernel
theorem dX8_value_7 : decode cX8_value 7 = .ok (.ifCond .ne 7, 3) := by decide +kernel
theorem dX8_value_10 : decode cX8_value 10 = .ok (.iconst 1, 1) := by decide +kernel
theorem dX8_value_11 : decode cX8_value 11 = .ok (.goto 22, 3) := by decide +kernel
theorem dX8_value_14 : decode cX8_value 14 = .ok (.aload_n 0, 1) := by decide +kernel
theorem dX8_value_15 : decode cX8_value 15 = .ok (.getfield 31, 3) := by decide +kernel
theorem dX8_value_18 : decode cX8_value 18 = .ok (.bipush 6, 2) := by decide +kernel
theorem dX8_value_20 : decode cX8_value 20 = .ok (.iload_n 1, 1) := by decide +kernel
theorem dX8_value_21 : decode cX8_value 21 = .ok (.imul, 1) := by decide +kernel
theorem dX8_value_22 : decode cX8_value 22 = .ok (.iload_n 2, 1) := by decide +kernel
theorem dX8_value_23 : decode cX8_value 23 = .ok (.iadd, 1) := by decide +kernel
theorem dX8_value_24 : decode cX8_value 24 = .ok (.baload, 1) := by decide +kernel
theorem dX8_value_25 : decode cX8_value 25 = .ok (.ifCond .ne 7, 3) := by decide +kernel
theorem dX8_value_28 : decode cX8_value 28 = .ok (.iconst 2, 1) := by decide +kernel
theorem dX8_value_29 : decode cX8_value 29 = .ok (.goto 4, 3) := by decide +kernel
theorem dX8_value_32 : decode cX8_value 32 = .ok (.iconst 0, 1) := by decide +kernel
theorem dX8_value_33 : decode cX8_value 33 = .ok (.putfield 66, 3) := by decide +kernel
theorem dX8_value_36 : decode cX8_value 36 = .ok (.aload_n 0, 1) := by decide +kernel
theorem dX8_value_37 : decode cX8_value 37 = .ok (.getfield 66, 3) := by decide +kernel
theorem dX8_value_40 : decode cX8_value 40 = .ok (.ifCond .ne 17, 3) := by decide +kernel
theorem dX8_value_43 : decode cX8_value 43 = .ok (.aload_n 0, 1) := by decide +kernel
theorem dX8_value_44 : decode cX8_value 44 = .ok (.getfield 28, 3) := by decide +kernel
theorem dX8_value_47 : decode cX8_value 47 = .ok (.bipush 6, 2) := by decide +kernel
theorem dX8_value_49 : decode cX8_value 49 = .ok (.iload_n 1, 1) := by decide +kernel
theorem dX8_value_50 : decode cX8_value 50 = .ok (.imul, 1) := by decide +kernel
theorem dX8_value_51 : decode cX8_value 51 = .ok (.iload_n 2, 1) := by decide +kernel
theorem dX8_value_52 : decode cX8_value 52 = .ok (.iadd, 1) := by decide +kernel
theorem dX8_value_53 : decode cX8_value 53 = .ok (.iaload, 1) := by decide +kernel
theorem dX8_value_54 : decode cX8_value 54 = .ok (.goto 4, 3) := by decide +kernel
theorem dX8_value_57 : decode cX8_value 57 = .ok (.iconst 0, 1) := by decide +kernel
theorem dX8_value_58 : decode cX8_value 58 = .ok (.ireturn, 1) := by decide +kernel
theorem dX8_refusal_0 : decode cX8_refusal 0 = .ok (.aload_n 0, 1) := by decide +kernel
theorem dX8_refusal_1 : decode cX8_refusal 1 = .ok (.aload_n 0, 1) := by decide +kernel
theorem dX8_refusal_2 : decode cX8_refusal 2 = .ok (.iload_n 1, 1) := by decide +kernel
theorem dX8_refusal_3 : decode cX8_refusal 3 = .ok (.invokevirtual 199, 3) := by decide +kernel
theorem dX8_refusal_6 : decode cX8_refusal 6 = .ok (.ifCond .ne 7, 3) := by decide +kernel
theorem dX8_refusal_9 : decode cX8_refusal 9 = .ok (.iconst 1, 1) := by decide +kernel
theorem dX8_refusal_10 : decode cX8_refusal 10 = .ok (.goto 17, 3) := by decide +kernel
theorem dX8_refusal_13 : decode cX8_refusal 13 = .ok (.aload_n 0, 1) := by decide +kernel
theorem dX8_refusal_14 : decode cX8_refusal 14 = .ok (.getfield 22, 3) := by decide +kernel
theorem dX8_refusal_17 : decode cX8_refusal 17 = .ok (.iload_n 1, 1) := by decide +kernel
theorem dX8_refusal_18 : decode cX8_refusal 18 = .ok (.iaload, 1) := by decide +kernel
theorem dX8_refusal_19 : decode cX8_refusal 19 = .ok (.ifCond .ne 7, 3) := by decide +kernel
theorem dX8_refusal_22 : decode cX8_refusal 22 = .ok (.iconst 2, 1) := by decide +kernel
theorem dX8_refusal_23 : decode cX8_refusal 23 = .ok (.goto 4, 3) := by decide +kernel
theorem dX8_refusal_26 : decode cX8_refusal 26 = .ok (.iconst 0, 1) := by decide +kernel
theorem dX8_refusal_27 : decode cX8_refusal 27 = .ok (.putfield 66, 3) := by decide +kernel
theorem dX8_refusal_30 : decode cX8_refusal 30 = .ok (.aload_n 0, 1) := by decide +kernel
theorem dX8_refusal_31 : decode cX8_refusal 31 = .ok (.getfield 66, 3) := by decide +kernel
theorem dX8_refusal_34 : decode cX8_refusal 34 = .ok (.ifCond .ne 11, 3) := by decide +kernel
theorem dX8_refusal_37 : decode cX8_refusal 37 = .ok (.aload_n 0, 1) := by decide +kernel
theorem dX8_refusal_38 : decode cX8_refusal 38 = .ok (.iload_n 1, 1) := by decide +kernel
theorem dX8_refusal_39 : decode cX8_refusal 39 = .ok (.invokevirtual 217, 3) := by decide +kernel
theorem dX8_refusal_42 : decode cX8_refusal 42 = .ok (.goto 4, 3) := by decide +kernel
theorem dX8_refusal_45 : decode cX8_refusal 45 = .ok (.iconst 0, 1) := by decide +kernel
theorem dX8_refusal_46 : decode cX8_refusal 46 = .ok (.ireturn, 1) := by decide +kernel
theorem dX8_counted_0 : decode cX8_counted 0 = .ok (.aload_n 0, 1) := by decide +kernel
theorem dX8_counted_1 : decode cX8_counted 1 = .ok (.iconst 0, 1) := by decide +kernel
theorem dX8_counted_2 : decode cX8_counted 2 = .ok (.putfield 66, 3) := by decide +kernel
theorem dX8_counted_5 : decode cX8_counted 5 = .ok (.iconst 0, 1) := by decide +kernel
theorem dX8_counted_6 : decode cX8_counted 6 = .ok (.istore_n 1, 1) := by decide +kernel
theorem dX8_counted_7 : decode cX8_counted 7 = .ok (.iconst 0, 1) := by decide +kernel
theorem dX8_counted_8 : decode cX8_counted 8 = .ok (.istore_n 2, 1) := by decide +kernel
theorem dX8_counted_9 : decode cX8_counted 9 = .ok (.iload_n 2, 1) := by decide +kernel
theorem dX8_counted_10 : decode cX8_counted 10 = .ok (.aload_n 0, 1) := by decide +kernel
theorem dX8_counted_11 : decode cX8_counted 11 = .ok (.getfield 165, 3) := by decide +kernel
theorem dX8_counted_14 : decode cX8_counted 14 = .ok (.if_icmp .ge 27, 3) := by decide +kernel
theorem dX8_counted_17 : decode cX8_counted 17 = .ok (.iload_n 1, 1) := by decide +kernel
theorem dX8_counted_18 : decode cX8_counted 18 = .ok (.aload_n 0, 1) := by decide +kernel
theorem dX8_counted_19 : decode cX8_counted 19 = .ok (.getfield 22, 3) := by decide +kernel
theorem dX8_counted_22 : decode cX8_counted 22 = .ok (.iload_n 2, 1) := by decide +kernel
theorem dX8_counted_23 : decode cX8_counted 23 = .ok (.iaload, 1) := by decide +kernel
theorem dX8_counted_24 : decode cX8_counted 24 = .ok (.iconst 1, 1) := by decide +kernel
theorem dX8_counted_25 : decode cX8_counted 25 = .ok (.if_icmp .ne 7, 3) := by decide +kernel
theorem dX8_counted_28 : decode cX8_counted 28 = .ok (.iconst 1, 1) := by decide +kernel
theorem dX8_counted_29 : decode cX8_counted 29 = .ok (.goto 4, 3) := by decide +kernel
theorem dX8_counted_32 : decode cX8_counted 32 = .ok (.iconst 0, 1) := by decide +kernel
theorem dX8_counted_33 : decode cX8_counted 33 = .ok (.iadd, 1) := by decide +kernel
theorem dX8_counted_34 : decode cX8_counted 34 = .ok (.istore_n 1, 1) := by decide +kernel
theorem dX8_counted_35 : decode cX8_counted 35 = .ok (.iinc 2 1, 3) := by decide +kernel
theorem dX8_counted_38 : decode cX8_counted 38 = .ok (.goto (-29), 3) := by decide +kernel
theorem dX8_counted_41 : decode cX8_counted 41 = .ok (.iload_n 1, 1) := by decide +kernel
theorem dX8_counted_42 : decode cX8_counted 42 = .ok (.ireturn, 1) := by decide +kernel
theorem dX8_doubt_0 : decode cX8_doubt 0 = .ok (.aload_n 0, 1) := by decide +kernel
theorem dX8_doubt_1 : decode cX8_doubt 1 = .ok (.aload_n 0, 1) := by decide +kernel
theorem dX8_doubt_2 : decode cX8_doubt 2 = .ok (.iload_n 1, 1) := by decide +kernel
theorem dX8_doubt_3 : decode cX8_doubt 3 = .ok (.iload_n 2, 1) := by decide +kernel
theorem dX8_doubt_4 : decode cX8_doubt 4 = .ok (.invokevirtual 202, 3) := by decide +kernel
theorem dX8_doubt_7 : decode cX8_doubt 7 = .ok (.ifCond .ne 7, 3) := by decide +kernel
theorem dX8_doubt_10 : decode cX8_doubt 10 = .ok (.iconst 1, 1) := by decide +kernel
theorem dX8_doubt_11 : decode cX8_doubt 11 = .ok (.goto 42, 3) := by decide +kernel
theorem dX8_doubt_14 : decode cX8_doubt 14 = .ok (.aload_n 0, 1) := by decide +kernel
theorem dX8_doubt_15 : decode cX8_doubt 15 = .ok (.getfield 22, 3) := by decide +kernel
theorem dX8_doubt_18 : decode cX8_doubt 18 = .ok (.iload_n 1, 1) := by decide +kernel
theorem dX8_doubt_19 : decode cX8_doubt 19 = .ok (.iaload, 1) := by decide +kernel
theorem dX8_doubt_20 : decode cX8_doubt 20 = .ok (.iconst 1, 1) := by decide +kernel
theorem dX8_doubt_21 : decode cX8_doubt 21 = .ok (.if_icmp .eq 13, 3) := by decide +kernel
theorem dX8_doubt_24 : decode cX8_doubt 24 = .ok (.aload_n 0, 1) := by decide +kernel
theorem dX8_doubt_25 : decode cX8_doubt 25 = .ok (.getfield 22, 3) := by decide +kernel
theorem dX8_doubt_28 : decode cX8_doubt 28 = .ok (.iload_n 1, 1) := by decide +kernel
theorem dX8_doubt_29 : decode cX8_doubt 29 = .ok (.iaload, 1) := by decide +kernel
theorem dX8_doubt_30 : decode cX8_doubt 30 = .ok (.iconst 3, 1) := by decide +kernel
theorem dX8_doubt_31 : decode cX8_doubt 31 = .ok (.if_icmp .ne 17, 3) := by decide +kernel
theorem dX8_doubt_34 : decode cX8_doubt 34 = .ok (.aload_n 0, 1) := by decide +kernel
theorem dX8_doubt_35 : decode cX8_doubt 35 = .ok (.aload_n 0, 1) := by decide +kernel
theorem dX8_doubt_36 : decode cX8_doubt 36 = .ok (.getfield 25, 3) := by decide +kernel
theorem dX8_doubt_39 : decode cX8_doubt 39 = .ok (.iload_n 1, 1) := by decide +kernel
theorem dX8_doubt_40 : decode cX8_doubt 40 = .ok (.iaload, 1) := by decide +kernel
theorem dX8_doubt_41 : decode cX8_doubt 41 = .ok (.iload_n 2, 1) := by decide +kernel
theorem dX8_doubt_42 : decode cX8_doubt 42 = .ok (.invokevirtual 155, 3) := by decide +kernel
theorem dX8_doubt_45 : decode cX8_doubt 45 = .ok (.ifCond .ne 7, 3) := by decide +kernel
theorem dX8_doubt_48 : decode cX8_doubt 48 = .ok (.iconst 2, 1) := by decide +kernel
theorem dX8_doubt_49 : decode cX8_doubt 49 = .ok (.goto 4, 3) := by decide +kernel
theorem dX8_doubt_52 : decode cX8_doubt 52 = .ok (.iconst 0, 1) := by decide +kernel
theorem dX8_doubt_53 : decode cX8_doubt 53 = .ok (.putfield 66, 3) := by decide +kernel
theorem dX8_doubt_56 : decode cX8_doubt 56 = .ok (.aload_n 0, 1) := by decide +kernel
theorem dX8_doubt_57 : decode cX8_doubt 57 = .ok (.getfield 66, 3) := by decide +kernel
theorem dX8_doubt_60 : decode cX8_doubt 60 = .ok (.ifCond .le 5, 3) := by decide +kernel
theorem dX8_doubt_63 : decode cX8_doubt 63 = .ok (.iconst 0, 1) := by decide +kernel
theorem dX8_doubt_64 : decode cX8_doubt 64 = .ok (.ireturn, 1) := by decide +kernel
theorem dX8_doubt_65 : decode cX8_doubt 65 = .ok (.aload_n 0, 1) := by decide +kernel
theorem dX8_doubt_66 : decode cX8_doubt 66 = .ok (.getfield 35, 3) := by decide +kernel
theorem dX8_doubt_69 : decode cX8_doubt 69 = .ok (.iload_n 1, 1) := by decide +kernel
theorem dX8_doubt_70 : decode cX8_doubt 70 = .ok (.iaload, 1) := by decide +kernel
theorem dX8_doubt_71 : decode cX8_doubt 71 = .ok (.iload_n 2, 1) := by decide +kernel
theorem dX8_doubt_72 : decode cX8_doubt 72 = .ok (.ishr, 1) := by decide +kernel
theorem dX8_doubt_73 : decode cX8_doubt 73 = .ok (.iconst 1, 1) := by decide +kernel
theorem dX8_doubt_74 : decode cX8_doubt 74 = .ok (.iand, 1) := by decide +kernel
theorem dX8_doubt_75 : decode cX8_doubt 75 = .ok (.iconst 1, 1) := by decide +kernel
theorem dX8_doubt_76 : decode cX8_doubt 76 = .ok (.if_icmp .ne 7, 3) := by decide +kernel
theorem dX8_doubt_79 : decode cX8_doubt 79 = .ok (.iconst 1, 1) := by decide +kernel
theorem dX8_doubt_80 : decode cX8_doubt 80 = .ok (.goto 4, 3) := by decide +kernel
theorem dX8_doubt_83 : decode cX8_doubt 83 = .ok (.iconst 0, 1) := by decide +kernel
theorem dX8_doubt_84 : decode cX8_doubt 84 = .ok (.istore_n 3, 1) := by decide +kernel
theorem dX8_doubt_85 : decode cX8_doubt 85 = .ok (.aload_n 0, 1) := by decide +kernel
theorem dX8_doubt_86 : decode cX8_doubt 86 = .ok (.getfield 35, 3) := by decide +kernel
theorem dX8_doubt_89 : decode cX8_doubt 89 = .ok (.iload_n 1, 1) := by decide +kernel
theorem dX8_doubt_90 : decode cX8_doubt 90 = .ok (.dup2, 1) := by decide +kernel
theorem dX8_doubt_91 : decode cX8_doubt 91 = .ok (.iaload, 1) := by decide +kernel
theorem dX8_doubt_92 : decode cX8_doubt 92 = .ok (.iconst 1, 1) := by decide +kernel
theorem dX8_doubt_93 : decode cX8_doubt 93 = .ok (.iload_n 2, 1) := by decide +kernel
theorem dX8_doubt_94 : decode cX8_doubt 94 = .ok (.ishl, 1) := by decide +kernel
theorem dX8_doubt_95 : decode cX8_doubt 95 = .ok (.ior, 1) := by decide +kernel
theorem dX8_doubt_96 : decode cX8_doubt 96 = .ok (.iastore, 1) := by decide +kernel
theorem dX8_doubt_97 : decode cX8_doubt 97 = .ok (.aload_n 0, 1) := by decide +kernel
theorem dX8_doubt_98 : decode cX8_doubt 98 = .ok (.getfield 22, 3) := by decide +kernel
theorem dX8_doubt_101 : decode cX8_doubt 101 = .ok (.iload_n 1, 1) := by decide +kernel
theorem dX8_doubt_102 : decode cX8_doubt 102 = .ok (.iconst 3, 1) := by decide +kernel
theorem dX8_doubt_103 : decode cX8_doubt 103 = .ok (.iastore, 1) := by decide +kernel
theorem dX8_doubt_104 : decode cX8_doubt 104 = .ok (.iload_n 3, 1) := by decide +kernel
theorem dX8_doubt_105 : decode cX8_doubt 105 = .ok (.ireturn, 1) := by decide +kernel
theorem dX8_settle_0 : decode cX8_settle 0 = .ok (.aload_n 0, 1) := by decide +kernel
theorem dX8_settle_1 : decode cX8_settle 1 = .ok (.aload_n 0, 1) := by decide +kernel
theorem dX8_settle_2 : decode cX8_settle 2 = .ok (.iload_n 1, 1) := by decide +kernel
theorem dX8_settle_3 : decode cX8_settle 3 = .ok (.iload_n 2, 1) := by decide +kernel
theorem dX8_settle_4 : decode cX8_settle 4 = .ok (.invokevirtual 202, 3) := by decide +kernel
theorem dX8_settle_7 : decode cX8_settle 7 = .ok (.ifCond .ne 7, 3) := by decide +kernel
theorem dX8_settle_10 : decode cX8_settle 10 = .ok (.iconst 1, 1) := by decide +kernel
theorem dX8_settle_11 : decode cX8_settle 11 = .ok (.goto 31, 3) := by decide +kernel
theorem dX8_settle_14 : decode cX8_settle 14 = .ok (.aload_n 0, 1) := by decide +kernel
theorem dX8_settle_15 : decode cX8_settle 15 = .ok (.getfield 22, 3) := by decide +kernel
theorem dX8_settle_18 : decode cX8_settle 18 = .ok (.iload_n 1, 1) := by decide +kernel
theorem dX8_settle_19 : decode cX8_settle 19 = .ok (.iaload, 1) := by decide +kernel
theorem dX8_settle_20 : decode cX8_settle 20 = .ok (.iconst 3, 1) := by decide +kernel
theorem dX8_settle_21 : decode cX8_settle 21 = .ok (.if_icmp .ne 16, 3) := by decide +kernel
theorem dX8_settle_24 : decode cX8_settle 24 = .ok (.aload_n 0, 1) := by decide +kernel
theorem dX8_settle_25 : decode cX8_settle 25 = .ok (.getfield 35, 3) := by decide +kernel
theorem dX8_settle_28 : decode cX8_settle 28 = .ok (.iload_n 1, 1) := by decide +kernel
theorem dX8_settle_29 : decode cX8_settle 29 = .ok (.iaload, 1) := by decide +kernel
theorem dX8_settle_30 : decode cX8_settle 30 = .ok (.iload_n 2, 1) := by decide +kernel
theorem dX8_settle_31 : decode cX8_settle 31 = .ok (.ishr, 1) := by decide +kernel
theorem dX8_settle_32 : decode cX8_settle 32 = .ok (.iconst 1, 1) := by decide +kernel
theorem dX8_settle_33 : decode cX8_settle 33 = .ok (.iand, 1) := by decide +kernel
theorem dX8_settle_34 : decode cX8_settle 34 = .ok (.ifCond .ne 7, 3) := by decide +kernel
theorem dX8_settle_37 : decode cX8_settle 37 = .ok (.iconst 2, 1) := by decide +kernel
theorem dX8_settle_38 : decode cX8_settle 38 = .ok (.goto 4, 3) := by decide +kernel
theorem dX8_settle_41 : decode cX8_settle 41 = .ok (.iconst 0, 1) := by decide +kernel
theorem dX8_settle_42 : decode cX8_settle 42 = .ok (.putfield 66, 3) := by decide +kernel
theorem dX8_settle_45 : decode cX8_settle 45 = .ok (.aload_n 0, 1) := by decide +kernel
theorem dX8_settle_46 : decode cX8_settle 46 = .ok (.getfield 66, 3) := by decide +kernel
theorem dX8_settle_49 : decode cX8_settle 49 = .ok (.ifCond .le 5, 3) := by decide +kernel
theorem dX8_settle_52 : decode cX8_settle 52 = .ok (.iconst 0, 1) := by decide +kernel
theorem dX8_settle_53 : decode cX8_settle 53 = .ok (.ireturn, 1) := by decide +kernel
theorem dX8_settle_54 : decode cX8_settle 54 = .ok (.iload_n 3, 1) := by decide +kernel
theorem dX8_settle_55 : decode cX8_settle 55 = .ok (.ifCond .eq 40, 3) := by decide +kernel
theorem dX8_settle_58 : decode cX8_settle 58 = .ok (.aload_n 0, 1) := by decide +kernel
theorem dX8_settle_59 : decode cX8_settle 59 = .ok (.getfield 35, 3) := by decide +kernel
theorem dX8_settle_62 : decode cX8_settle 62 = .ok (.iload_n 1, 1) := by decide +kernel
theorem dX8_settle_63 : decode cX8_settle 63 = .ok (.dup2, 1) := by decide +kernel
theorem dX8_settle_64 : decode cX8_settle 64 = .ok (.iaload, 1) := by decide +kernel
theorem dX8_settle_65 : decode cX8_settle 65 = .ok (.iconst 1, 1) := by decide +kernel
theorem dX8_settle_66 : decode cX8_settle 66 = .ok (.iload_n 2, 1) := by decide +kernel
theorem dX8_settle_67 : decode cX8_settle 67 = .ok (.ishl, 1) := by decide +kernel
end
section
theorem dX8_settle_68 : decode cX8_settle 68 = .ok (.iconst (-1), 1) := by decide +kernel
theorem dX8_settle_69 : decode cX8_settle 69 = .ok (.ixor, 1) := by decide +kernel
theorem dX8_settle_70 : decode cX8_settle 70 = .ok (.iand, 1) := by decide +kernel
theorem dX8_settle_71 : decode cX8_settle 71 = .ok (.iastore, 1) := by decide +kernel
theorem dX8_settle_72 : decode cX8_settle 72 = .ok (.aload_n 0, 1) := by decide +kernel
theorem dX8_settle_73 : decode cX8_settle 73 = .ok (.getfield 22, 3) := by decide +kernel
theorem dX8_settle_76 : decode cX8_settle 76 = .ok (.iload_n 1, 1) := by decide +kernel
theorem dX8_settle_77 : decode cX8_settle 77 = .ok (.aload_n 0, 1) := by decide +kernel
theorem dX8_settle_78 : decode cX8_settle 78 = .ok (.getfield 35, 3) := by decide +kernel
theorem dX8_settle_81 : decode cX8_settle 81 = .ok (.iload_n 1, 1) := by decide +kernel
theorem dX8_settle_82 : decode cX8_settle 82 = .ok (.iaload, 1) := by decide +kernel
theorem dX8_settle_83 : decode cX8_settle 83 = .ok (.ifCond .ne 7, 3) := by decide +kernel
theorem dX8_settle_86 : decode cX8_settle 86 = .ok (.iconst 1, 1) := by decide +kernel
theorem dX8_settle_87 : decode cX8_settle 87 = .ok (.goto 4, 3) := by decide +kernel
theorem dX8_settle_90 : decode cX8_settle 90 = .ok (.iconst 3, 1) := by decide +kernel
theorem dX8_settle_91 : decode cX8_settle 91 = .ok (.iastore, 1) := by decide +kernel
theorem dX8_settle_92 : decode cX8_settle 92 = .ok (.goto 10, 3) := by decide +kernel
theorem dX8_settle_95 : decode cX8_settle 95 = .ok (.aload_n 0, 1) := by decide +kernel
theorem dX8_settle_96 : decode cX8_settle 96 = .ok (.getfield 22, 3) := by decide +kernel
theorem dX8_settle_99 : decode cX8_settle 99 = .ok (.iload_n 1, 1) := by decide +kernel
theorem dX8_settle_100 : decode cX8_settle 100 = .ok (.iconst 4, 1) := by decide +kernel
theorem dX8_settle_101 : decode cX8_settle 101 = .ok (.iastore, 1) := by decide +kernel
theorem dX8_settle_102 : decode cX8_settle 102 = .ok (.aload_n 0, 1) := by decide +kernel
theorem dX8_settle_103 : decode cX8_settle 103 = .ok (.getfield 22, 3) := by decide +kernel
theorem dX8_settle_106 : decode cX8_settle 106 = .ok (.iload_n 1, 1) := by decide +kernel
theorem dX8_settle_107 : decode cX8_settle 107 = .ok (.iaload, 1) := by decide +kernel
theorem dX8_settle_108 : decode cX8_settle 108 = .ok (.ireturn, 1) := by decide +kernel
theorem dX8_amend_0 : decode cX8_amend 0 = .ok (.aload_n 0, 1) := by decide +kernel
theorem dX8_amend_1 : decode cX8_amend 1 = .ok (.aload_n 0, 1) := by decide +kernel
theorem dX8_amend_2 : decode cX8_amend 2 = .ok (.iload_n 1, 1) := by decide +kernel
theorem dX8_amend_3 : decode cX8_amend 3 = .ok (.iload_n 2, 1) := by decide +kernel
theorem dX8_amend_4 : decode cX8_amend 4 = .ok (.invokevirtual 202, 3) := by decide +kernel
theorem dX8_amend_7 : decode cX8_amend 7 = .ok (.ifCond .ne 7, 3) := by decide +kernel
theorem dX8_amend_10 : decode cX8_amend 10 = .ok (.iconst 1, 1) := by decide +kernel
theorem dX8_amend_11 : decode cX8_amend 11 = .ok (.goto 41, 3) := by decide +kernel
theorem dX8_amend_14 : decode cX8_amend 14 = .ok (.aload_n 0, 1) := by decide +kernel
theorem dX8_amend_15 : decode cX8_amend 15 = .ok (.getfield 22, 3) := by decide +kernel
theorem dX8_amend_18 : decode cX8_amend 18 = .ok (.iload_n 1, 1) := by decide +kernel
theorem dX8_amend_19 : decode cX8_amend 19 = .ok (.iaload, 1) := by decide +kernel
theorem dX8_amend_20 : decode cX8_amend 20 = .ok (.iconst 3, 1) := by decide +kernel
theorem dX8_amend_21 : decode cX8_amend 21 = .ok (.if_icmp .ne 12, 3) := by decide +kernel
theorem dX8_amend_24 : decode cX8_amend 24 = .ok (.aload_n 0, 1) := by decide +kernel
theorem dX8_amend_25 : decode cX8_amend 25 = .ok (.iload_n 1, 1) := by decide +kernel
theorem dX8_amend_26 : decode cX8_amend 26 = .ok (.iload_n 2, 1) := by decide +kernel
theorem dX8_amend_27 : decode cX8_amend 27 = .ok (.invokevirtual 196, 3) := by decide +kernel
theorem dX8_amend_30 : decode cX8_amend 30 = .ok (.ifCond .ne 7, 3) := by decide +kernel
theorem dX8_amend_33 : decode cX8_amend 33 = .ok (.iconst 2, 1) := by decide +kernel
theorem dX8_amend_34 : decode cX8_amend 34 = .ok (.goto 18, 3) := by decide +kernel
theorem dX8_amend_37 : decode cX8_amend 37 = .ok (.aload_n 0, 1) := by decide +kernel
theorem dX8_amend_38 : decode cX8_amend 38 = .ok (.iload_n 1, 1) := by decide +kernel
theorem dX8_amend_39 : decode cX8_amend 39 = .ok (.iload_n 2, 1) := by decide +kernel
theorem dX8_amend_40 : decode cX8_amend 40 = .ok (.iload_n 3, 1) := by decide +kernel
theorem dX8_amend_41 : decode cX8_amend 41 = .ok (.invokevirtual 205, 3) := by decide +kernel
theorem dX8_amend_44 : decode cX8_amend 44 = .ok (.ifCond .ne 7, 3) := by decide +kernel
theorem dX8_amend_47 : decode cX8_amend 47 = .ok (.iconst 3, 1) := by decide +kernel
theorem dX8_amend_48 : decode cX8_amend 48 = .ok (.goto 4, 3) := by decide +kernel
theorem dX8_amend_51 : decode cX8_amend 51 = .ok (.iconst 0, 1) := by decide +kernel
theorem dX8_amend_52 : decode cX8_amend 52 = .ok (.putfield 66, 3) := by decide +kernel
theorem dX8_amend_55 : decode cX8_amend 55 = .ok (.aload_n 0, 1) := by decide +kernel
theorem dX8_amend_56 : decode cX8_amend 56 = .ok (.getfield 66, 3) := by decide +kernel
theorem dX8_amend_59 : decode cX8_amend 59 = .ok (.ifCond .le 5, 3) := by decide +kernel
theorem dX8_amend_62 : decode cX8_amend 62 = .ok (.iconst 0, 1) := by decide +kernel
theorem dX8_amend_63 : decode cX8_amend 63 = .ok (.ireturn, 1) := by decide +kernel
theorem dX8_amend_64 : decode cX8_amend 64 = .ok (.aload_n 0, 1) := by decide +kernel
theorem dX8_amend_65 : decode cX8_amend 65 = .ok (.getfield 28, 3) := by decide +kernel
theorem dX8_amend_68 : decode cX8_amend 68 = .ok (.bipush 6, 2) := by decide +kernel
theorem dX8_amend_70 : decode cX8_amend 70 = .ok (.iload_n 1, 1) := by decide +kernel
theorem dX8_amend_71 : decode cX8_amend 71 = .ok (.imul, 1) := by decide +kernel
theorem dX8_amend_72 : decode cX8_amend 72 = .ok (.iload_n 2, 1) := by decide +kernel
theorem dX8_amend_73 : decode cX8_amend 73 = .ok (.iadd, 1) := by decide +kernel
theorem dX8_amend_74 : decode cX8_amend 74 = .ok (.iload_n 3, 1) := by decide +kernel
theorem dX8_amend_75 : decode cX8_amend 75 = .ok (.iastore, 1) := by decide +kernel
theorem dX8_amend_76 : decode cX8_amend 76 = .ok (.aload_n 0, 1) := by decide +kernel
theorem dX8_amend_77 : decode cX8_amend 77 = .ok (.getfield 35, 3) := by decide +kernel
theorem dX8_amend_80 : decode cX8_amend 80 = .ok (.iload_n 1, 1) := by decide +kernel
theorem dX8_amend_81 : decode cX8_amend 81 = .ok (.dup2, 1) := by decide +kernel
theorem dX8_amend_82 : decode cX8_amend 82 = .ok (.iaload, 1) := by decide +kernel
theorem dX8_amend_83 : decode cX8_amend 83 = .ok (.iconst 1, 1) := by decide +kernel
theorem dX8_amend_84 : decode cX8_amend 84 = .ok (.iload_n 2, 1) := by decide +kernel
theorem dX8_amend_85 : decode cX8_amend 85 = .ok (.ishl, 1) := by decide +kernel
theorem dX8_amend_86 : decode cX8_amend 86 = .ok (.iconst (-1), 1) := by decide +kernel
theorem dX8_amend_87 : decode cX8_amend 87 = .ok (.ixor, 1) := by decide +kernel
theorem dX8_amend_88 : decode cX8_amend 88 = .ok (.iand, 1) := by decide +kernel
theorem dX8_amend_89 : decode cX8_amend 89 = .ok (.iastore, 1) := by decide +kernel
theorem dX8_amend_90 : decode cX8_amend 90 = .ok (.aload_n 0, 1) := by decide +kernel
theorem dX8_amend_91 : decode cX8_amend 91 = .ok (.iload_n 1, 1) := by decide +kernel
theorem dX8_amend_92 : decode cX8_amend 92 = .ok (.invokevirtual 220, 3) := by decide +kernel
theorem dX8_amend_95 : decode cX8_amend 95 = .ok (.ireturn, 1) := by decide +kernel
theorem dX8_doubts_0 : decode cX8_doubts 0 = .ok (.aload_n 0, 1) := by decide +kernel
theorem dX8_doubts_1 : decode cX8_doubts 1 = .ok (.iload_n 1, 1) := by decide +kernel
theorem dX8_doubts_2 : decode cX8_doubts 2 = .ok (.invokevirtual 223, 3) := by decide +kernel
theorem dX8_doubts_5 : decode cX8_doubts 5 = .ok (.ifCond .eq 12, 3) := by decide +kernel
theorem dX8_doubts_8 : decode cX8_doubts 8 = .ok (.aload_n 0, 1) := by decide +kernel
theorem dX8_doubts_9 : decode cX8_doubts 9 = .ok (.getfield 35, 3) := by decide +kernel
theorem dX8_doubts_12 : decode cX8_doubts 12 = .ok (.iload_n 1, 1) := by decide +kernel
theorem dX8_doubts_13 : decode cX8_doubts 13 = .ok (.iaload, 1) := by decide +kernel
theorem dX8_doubts_14 : decode cX8_doubts 14 = .ok (.goto 4, 3) := by decide +kernel
theorem dX8_doubts_17 : decode cX8_doubts 17 = .ok (.iconst 0, 1) := by decide +kernel
theorem dX8_doubts_18 : decode cX8_doubts 18 = .ok (.ireturn, 1) := by decide +kernel
theorem dJ9_min_7cf53_0 : decode cJ9_min_7cf53 0 = .ok (.iload_n 0, 1) := by decide +kernel
theorem dJ9_min_7cf53_1 : decode cJ9_min_7cf53 1 = .ok (.iload_n 1, 1) := by decide +kernel
theorem dJ9_min_7cf53_2 : decode cJ9_min_7cf53 2 = .ok (.if_icmp .gt 7, 3) := by decide +kernel
theorem dJ9_min_7cf53_5 : decode cJ9_min_7cf53 5 = .ok (.iload_n 0, 1) := by decide +kernel
theorem dJ9_min_7cf53_6 : decode cJ9_min_7cf53 6 = .ok (.goto 4, 3) := by decide +kernel
theorem dJ9_min_7cf53_9 : decode cJ9_min_7cf53 9 = .ok (.iload_n 1, 1) := by decide +kernel
theorem dJ9_min_7cf53_10 : decode cJ9_min_7cf53 10 = .ok (.ireturn, 1) := by decide +kernel
theorem dJ7_copyOf_59c91_0 : decode cJ7_copyOf_59c91 0 = .ok (.iload_n 1, 1) := by decide +kernel
theorem dJ7_copyOf_59c91_1 : decode cJ7_copyOf_59c91 1 = .ok (.aload_n 0, 1) := by decide +kernel
theorem dJ7_copyOf_59c91_2 : decode cJ7_copyOf_59c91 2 = .ok (.arraylength, 1) := by decide +kernel
theorem dJ7_copyOf_59c91_3 : decode cJ7_copyOf_59c91 3 = .ok (.if_icmp .ne 11, 3) := by decide +kernel
theorem dJ7_copyOf_59c91_6 : decode cJ7_copyOf_59c91 6 = .ok (.aload_n 0, 1) := by decide +kernel
theorem dJ7_copyOf_59c91_7 : decode cJ7_copyOf_59c91 7 = .ok (.invokevirtual 316, 3) := by decide +kernel
theorem dJ7_copyOf_59c91_10 : decode cJ7_copyOf_59c91 10 = .ok (.checkcast 317, 3) := by decide +kernel
theorem dJ7_copyOf_59c91_13 : decode cJ7_copyOf_59c91 13 = .ok (.areturn, 1) := by decide +kernel
theorem dJ7_copyOf_59c91_14 : decode cJ7_copyOf_59c91 14 = .ok (.iload_n 1, 1) := by decide +kernel
theorem dJ7_copyOf_59c91_15 : decode cJ7_copyOf_59c91 15 = .ok (.newarray .int, 2) := by decide +kernel
theorem dJ7_copyOf_59c91_17 : decode cJ7_copyOf_59c91 17 = .ok (.astore_n 2, 1) := by decide +kernel
theorem dJ7_copyOf_59c91_18 : decode cJ7_copyOf_59c91 18 = .ok (.aload_n 0, 1) := by decide +kernel
theorem dJ7_copyOf_59c91_19 : decode cJ7_copyOf_59c91 19 = .ok (.iconst 0, 1) := by decide +kernel
theorem dJ7_copyOf_59c91_20 : decode cJ7_copyOf_59c91 20 = .ok (.aload_n 2, 1) := by decide +kernel
theorem dJ7_copyOf_59c91_21 : decode cJ7_copyOf_59c91 21 = .ok (.iconst 0, 1) := by decide +kernel
theorem dJ7_copyOf_59c91_22 : decode cJ7_copyOf_59c91 22 = .ok (.aload_n 0, 1) := by decide +kernel
theorem dJ7_copyOf_59c91_23 : decode cJ7_copyOf_59c91 23 = .ok (.arraylength, 1) := by decide +kernel
theorem dJ7_copyOf_59c91_24 : decode cJ7_copyOf_59c91 24 = .ok (.iload_n 1, 1) := by decide +kernel
theorem dJ7_copyOf_59c91_25 : decode cJ7_copyOf_59c91 25 = .ok (.invokestatic 304, 3) := by decide +kernel
theorem dJ7_copyOf_59c91_28 : decode cJ7_copyOf_59c91 28 = .ok (.invokestatic 150, 3) := by decide +kernel
theorem dJ7_copyOf_59c91_31 : decode cJ7_copyOf_59c91 31 = .ok (.aload_n 2, 1) := by decide +kernel
theorem dJ7_copyOf_59c91_32 : decode cJ7_copyOf_59c91 32 = .ok (.areturn, 1) := by decide +kernel
theorem dL_type_0 : decode cL_type 0 = .ok (.aload_n 2, 1) := by decide +kernel
theorem dL_type_1 : decode cL_type 1 = .ok (.iconst 0, 1) := by decide +kernel
theorem dL_type_2 : decode cL_type 2 = .ok (.aload_n 0, 1) := by decide +kernel
theorem dL_type_3 : decode cL_type 3 = .ok (.iload_n 1, 1) := by decide +kernel
theorem dL_type_4 : decode cL_type 4 = .ok (.invokevirtual 7, 3) := by decide +kernel
theorem dL_type_7 : decode cL_type 7 = .ok (.i2l, 1) := by decide +kernel
theorem dL_type_8 : decode cL_type 8 = .ok (.lastore, 1) := by decide +kernel
theorem dL_type_9 : decode cL_type 9 = .ok (.goto 6, 3) := by decide +kernel
theorem dL_type_12 : decode cL_type 12 = .ok (.astore_n 3, 1) := by decide +kernel
theorem dL_type_13 : decode cL_type 13 = .ok (.iconst 1, 1) := by decide +kernel
theorem dL_type_14 : decode cL_type 14 = .ok (.ireturn, 1) := by decide +kernel
theorem dL_type_15 : decode cL_type 15 = .ok (.iconst 0, 1) := by decide +kernel
theorem dL_type_16 : decode cL_type 16 = .ok (.ireturn, 1) := by decide +kernel
theorem dL_typeOfText_0 : decode cL_typeOfText 0 = .ok (.aload_n 1, 1) := by decide +kernel
theorem dL_typeOfText_1 : decode cL_typeOfText 1 = .ok (.iconst 0, 1) := by decide +kernel
theorem dL_typeOfText_2 : decode cL_typeOfText 2 = .ok (.aload_n 0, 1) := by decide +kernel
theorem dL_typeOfText_3 : decode cL_typeOfText 3 = .ok (.invokevirtual 15, 3) := by decide +kernel
theorem dL_typeOfText_6 : decode cL_typeOfText 6 = .ok (.i2l, 1) := by decide +kernel
theorem dL_typeOfText_7 : decode cL_typeOfText 7 = .ok (.lastore, 1) := by decide +kernel
theorem dL_typeOfText_8 : decode cL_typeOfText 8 = .ok (.goto 6, 3) := by decide +kernel
theorem dL_typeOfText_11 : decode cL_typeOfText 11 = .ok (.astore_n 2, 1) := by decide +kernel
theorem dL_typeOfText_12 : decode cL_typeOfText 12 = .ok (.iconst 1, 1) := by decide +kernel
theorem dL_typeOfText_13 : decode cL_typeOfText 13 = .ok (.ireturn, 1) := by decide +kernel
theorem dL_typeOfText_14 : decode cL_typeOfText 14 = .ok (.iconst 0, 1) := by decide +kernel
theorem dL_typeOfText_15 : decode cL_typeOfText 15 = .ok (.ireturn, 1) := by decide +kernel
theorem dL_setType_0 : decode cL_setType 0 = .ok (.aload_n 3, 1) := by decide +kernel
theorem dL_setType_1 : decode cL_setType 1 = .ok (.iconst 0, 1) := by decide +kernel
theorem dL_setType_2 : decode cL_setType 2 = .ok (.aload_n 0, 1) := by decide +kernel
theorem dL_setType_3 : decode cL_setType 3 = .ok (.iload_n 1, 1) := by decide +kernel
theorem dL_setType_4 : decode cL_setType 4 = .ok (.iload_n 2, 1) := by decide +kernel
theorem dL_setType_5 : decode cL_setType 5 = .ok (.invokevirtual 19, 3) := by decide +kernel
theorem dL_setType_8 : decode cL_setType 8 = .ok (.i2l, 1) := by decide +kernel
theorem dL_setType_9 : decode cL_setType 9 = .ok (.lastore, 1) := by decide +kernel
theorem dL_setType_10 : decode cL_setType 10 = .ok (.goto 11, 3) := by decide +kernel
theorem dL_setType_13 : decode cL_setType 13 = .ok (.astore 4, 2) := by decide +kernel
theorem dL_setType_15 : decode cL_setType 15 = .ok (.iconst 1, 1) := by decide +kernel
theorem dL_setType_16 : decode cL_setType 16 = .ok (.ireturn, 1) := by decide +kernel
theorem dL_setType_17 : decode cL_setType 17 = .ok (.astore 4, 2) := by decide +kernel
theorem dL_setType_19 : decode cL_setType 19 = .ok (.iconst 2, 1) := by decide +kernel
theorem dL_setType_20 : decode cL_setType 20 = .ok (.ireturn, 1) := by decide +kernel
theorem dL_setType_21 : decode cL_setType 21 = .ok (.iconst 0, 1) := by decide +kernel
theorem dL_setType_22 : decode cL_setType 22 = .ok (.ireturn, 1) := by decide +kernel
theorem dL_setFormula_0 : decode cL_setFormula 0 = .ok (.aload_n 2, 1) := by decide +kernel
theorem dL_setFormula_1 : decode cL_setFormula 1 = .ok (.iconst 0, 1) := by decide +kernel
theorem dL_setFormula_2 : decode cL_setFormula 2 = .ok (.aload_n 0, 1) := by decide +kernel
theorem dL_setFormula_3 : decode cL_setFormula 3 = .ok (.iload_n 1, 1) := by decide +kernel
theorem dL_setFormula_4 : decode cL_setFormula 4 = .ok (.invokevirtual 27, 3) := by decide +kernel
theorem dL_setFormula_7 : decode cL_setFormula 7 = .ok (.i2l, 1) := by decide +kernel
theorem dL_setFormula_8 : decode cL_setFormula 8 = .ok (.lastore, 1) := by decide +kernel
theorem dL_setFormula_9 : decode cL_setFormula 9 = .ok (.goto 12, 3) := by decide +kernel
theorem dL_setFormula_12 : decode cL_setFormula 12 = .ok (.astore_n 3, 1) := by decide +kernel
theorem dL_setFormula_13 : decode cL_setFormula 13 = .ok (.iconst 1, 1) := by decide +kernel
theorem dL_setFormula_14 : decode cL_setFormula 14 = .ok (.ireturn, 1) := by decide +kernel
theorem dL_setFormula_15 : decode cL_setFormula 15 = .ok (.astore_n 3, 1) := by decide +kernel
theorem dL_setFormula_16 : decode cL_setFormula 16 = .ok (.iconst 2, 1) := by decide +kernel
theorem dL_setFormula_17 : decode cL_setFormula 17 = .ok (.ireturn, 1) := by decide +kernel
theorem dL_setFormula_18 : decode cL_setFormula 18 = .ok (.astore_n 3, 1) := by decide +kernel
theorem dL_setFormula_19 : decode cL_setFormula 19 = .ok (.iconst 3, 1) := by decide +kernel
theorem dL_setFormula_20 : decode cL_setFormula 20 = .ok (.ireturn, 1) := by decide +kernel
theorem dL_setFormula_21 : decode cL_setFormula 21 = .ok (.iconst 0, 1) := by decide +kernel
theorem dL_setFormula_22 : decode cL_setFormula 22 = .ok (.ireturn, 1) := by decide +kernel
theorem dL_dropFormula_0 : decode cL_dropFormula 0 = .ok (.aload_n 2, 1) := by decide +kernel
theorem dL_dropFormula_1 : decode cL_dropFormula 1 = .ok (.iconst 0, 1) := by decide +kernel
theorem dL_dropFormula_2 : decode cL_dropFormula 2 = .ok (.aload_n 0, 1) := by decide +kernel
theorem dL_dropFormula_3 : decode cL_dropFormula 3 = .ok (.iload_n 1, 1) := by decide +kernel
theorem dL_dropFormula_4 : decode cL_dropFormula 4 = .ok (.invokevirtual 31, 3) := by decide +kernel
theorem dL_dropFormula_7 : decode cL_dropFormula 7 = .ok (.ifCond .eq 7, 3) := by decide +kernel
theorem dL_dropFormula_10 : decode cL_dropFormula 10 = .ok (.lconst 1, 1) := by decide +kernel
theorem dL_dropFormula_11 : decode cL_dropFormula 11 = .ok (.goto 4, 3) := by decide +kernel
theorem dL_dropFormula_14 : decode cL_dropFormula 14 = .ok (.lconst 0, 1) := by decide +kernel
theorem dL_dropFormula_15 : decode cL_dropFormula 15 = .ok (.lastore, 1) := by decide +kernel
theorem dL_dropFormula_16 : decode cL_dropFormula 16 = .ok (.goto 6, 3) := by decide +kernel
theorem dL_dropFormula_19 : decode cL_dropFormula 19 = .ok (.astore_n 3, 1) := by decide +kernel
theorem dL_dropFormula_20 : decode cL_dropFormula 20 = .ok (.iconst 1, 1) := by decide +kernel
theorem dL_dropFormula_21 : decode cL_dropFormula 21 = .ok (.ireturn, 1) := by decide +kernel
theorem dL_dropFormula_22 : decode cL_dropFormula 22 = .ok (.iconst 0, 1) := by decide +kernel
theorem dL_dropFormula_23 : decode cL_dropFormula 23 = .ok (.ireturn, 1) := by decide +kernel
theorem dL_isBroken_0 : decode cL_isBroken 0 = .ok (.aload_n 2, 1) := by decide +kernel
theorem dL_isBroken_1 : decode cL_isBroken 1 = .ok (.iconst 0, 1) := by decide +kernel
theorem dL_isBroken_2 : decode cL_isBroken 2 = .ok (.aload_n 0, 1) := by decide +kernel
theorem dL_isBroken_3 : decode cL_isBroken 3 = .ok (.iload_n 1, 1) := by decide +kernel
theorem dL_isBroken_4 : decode cL_isBroken 4 = .ok (.invokevirtual 35, 3) := by decide +kernel
theorem dL_isBroken_7 : decode cL_isBroken 7 = .ok (.ifCond .eq 7, 3) := by decide +kernel
theorem dL_isBroken_10 : decode cL_isBroken 10 = .ok (.lconst 1, 1) := by decide +kernel
theorem dL_isBroken_11 : decode cL_isBroken 11 = .ok (.goto 4, 3) := by decide +kernel
theorem dL_isBroken_14 : decode cL_isBroken 14 = .ok (.lconst 0, 1) := by decide +kernel
theorem dL_isBroken_15 : decode cL_isBroken 15 = .ok (.lastore, 1) := by decide +kernel
theorem dL_isBroken_16 : decode cL_isBroken 16 = .ok (.goto 6, 3) := by decide +kernel
theorem dL_isBroken_19 : decode cL_isBroken 19 = .ok (.astore_n 3, 1) := by decide +kernel
theorem dL_isBroken_20 : decode cL_isBroken 20 = .ok (.iconst 1, 1) := by decide +kernel
theorem dL_isBroken_21 : decode cL_isBroken 21 = .ok (.ireturn, 1) := by decide +kernel
theorem dL_isBroken_22 : decode cL_isBroken 22 = .ok (.iconst 0, 1) := by decide +kernel
theorem dL_isBroken_23 : decode cL_isBroken 23 = .ok (.ireturn, 1) := by decide +kernel
theorem dL_publish_0 : decode cL_publish 0 = .ok (.aload_n 1, 1) := by decide +kernel
theorem dL_publish_1 : decode cL_publish 1 = .ok (.iconst 0, 1) := by decide +kernel
theorem dL_publish_2 : decode cL_publish 2 = .ok (.aload_n 0, 1) := by decide +kernel
theorem dL_publish_3 : decode cL_publish 3 = .ok (.invokevirtual 38, 3) := by decide +kernel
theorem dL_publish_6 : decode cL_publish 6 = .ok (.i2l, 1) := by decide +kernel
theorem dL_publish_7 : decode cL_publish 7 = .ok (.lastore, 1) := by decide +kernel
theorem dL_publish_8 : decode cL_publish 8 = .ok (.goto 6, 3) := by decide +kernel
theorem dL_publish_11 : decode cL_publish 11 = .ok (.astore_n 2, 1) := by decide +kernel
theorem dL_publish_12 : decode cL_publish 12 = .ok (.iconst 1, 1) := by decide +kernel
theorem dL_publish_13 : decode cL_publish 13 = .ok (.ireturn, 1) := by decide +kernel
theorem dL_publish_14 : decode cL_publish 14 = .ok (.iconst 0, 1) := by decide +kernel
theorem dL_publish_15 : decode cL_publish 15 = .ok (.ireturn, 1) := by decide +kernel
theorem dL_typeIn_0 : decode cL_typeIn 0 = .ok (.aload_n 3, 1) := by decide +kernel
theorem dL_typeIn_1 : decode cL_typeIn 1 = .ok (.iconst 0, 1) := by decide +kernel
theorem dL_typeIn_2 : decode cL_typeIn 2 = .ok (.aload_n 0, 1) := by decide +kernel
theorem dL_typeIn_3 : decode cL_typeIn 3 = .ok (.iload_n 1, 1) := by decide +kernel
theorem dL_typeIn_4 : decode cL_typeIn 4 = .ok (.iload_n 2, 1) := by decide +kernel
theorem dL_typeIn_5 : decode cL_typeIn 5 = .ok (.invokevirtual 41, 3) := by decide +kernel
theorem dL_typeIn_8 : decode cL_typeIn 8 = .ok (.i2l, 1) := by decide +kernel
theorem dL_typeIn_9 : decode cL_typeIn 9 = .ok (.lastore, 1) := by decide +kernel
theorem dL_typeIn_10 : decode cL_typeIn 10 = .ok (.goto 7, 3) := by decide +kernel
theorem dL_typeIn_13 : decode cL_typeIn 13 = .ok (.astore 4, 2) := by decide +kernel
theorem dL_typeIn_15 : decode cL_typeIn 15 = .ok (.iconst 1, 1) := by decide +kernel
theorem dL_typeIn_16 : decode cL_typeIn 16 = .ok (.ireturn, 1) := by decide +kernel
theorem dL_typeIn_17 : decode cL_typeIn 17 = .ok (.iconst 0, 1) := by decide +kernel
theorem dL_typeIn_18 : decode cL_typeIn 18 = .ok (.ireturn, 1) := by decide +kernel
theorem dL_order_0 : decode cL_order 0 = .ok (.aload_n 3, 1) := by decide +kernel
theorem dL_order_1 : decode cL_order 1 = .ok (.iconst 0, 1) := by decide +kernel
theorem dL_order_2 : decode cL_order 2 = .ok (.aload_n 0, 1) := by decide +kernel
theorem dL_order_3 : decode cL_order 3 = .ok (.iload_n 1, 1) := by decide +kernel
theorem dL_order_4 : decode cL_order 4 = .ok (.iload_n 2, 1) := by decide +kernel
theorem dL_order_5 : decode cL_order 5 = .ok (.invokevirtual 44, 3) := by decide +kernel
theorem dL_order_8 : decode cL_order 8 = .ok (.i2l, 1) := by decide +kernel
theorem dL_order_9 : decode cL_order 9 = .ok (.lastore, 1) := by decide +kernel
theorem dL_order_10 : decode cL_order 10 = .ok (.goto 7, 3) := by decide +kernel
theorem dL_order_13 : decode cL_order 13 = .ok (.astore 4, 2) := by decide +kernel
theorem dL_order_15 : decode cL_order 15 = .ok (.iconst 1, 1) := by decide +kernel
theorem dL_order_16 : decode cL_order 16 = .ok (.ireturn, 1) := by decide +kernel
theorem dL_order_17 : decode cL_order 17 = .ok (.iconst 0, 1) := by decide +kernel
theorem dL_order_18 : decode cL_order 18 = .ok (.ireturn, 1) := by decide +kernel
theorem dL_plain_0 : decode cL_plain 0 = .ok (.aload 4, 2) := by decide +kernel
theorem dL_plain_2 : decode cL_plain 2 = .ok (.iconst 0, 1) := by decide +kernel
theorem dL_plain_3 : decode cL_plain 3 = .ok (.aload_n 0, 1) := by decide +kernel
theorem dL_plain_4 : decode cL_plain 4 = .ok (.iload_n 1, 1) := by decide +kernel
theorem dL_plain_5 : decode cL_plain 5 = .ok (.iload_n 2, 1) := by decide +kernel
theorem dL_plain_6 : decode cL_plain 6 = .ok (.iload_n 3, 1) := by decide +kernel
theorem dL_plain_7 : decode cL_plain 7 = .ok (.invokevirtual 47, 3) := by decide +kernel
theorem dL_plain_10 : decode cL_plain 10 = .ok (.i2l, 1) := by decide +kernel
theorem dL_plain_11 : decode cL_plain 11 = .ok (.lastore, 1) := by decide +kernel
theorem dL_plain_12 : decode cL_plain 12 = .ok (.goto 7, 3) := by decide +kernel
theorem dL_plain_15 : decode cL_plain 15 = .ok (.astore 5, 2) := by decide +kernel
theorem dL_plain_17 : decode cL_plain 17 = .ok (.iconst 1, 1) := by decide +kernel
theorem dL_plain_18 : decode cL_plain 18 = .ok (.ireturn, 1) := by decide +kernel
theorem dL_plain_19 : decode cL_plain 19 = .ok (.iconst 0, 1) := by decide +kernel
theorem dL_plain_20 : decode cL_plain 20 = .ok (.ireturn, 1) := by decide +kernel
theorem dL_begin_0 : decode cL_begin 0 = .ok (.aload_n 1, 1) := by decide +kernel
theorem dL_begin_1 : decode cL_begin 1 = .ok (.iconst 0, 1) := by decide +kernel
theorem dL_begin_2 : decode cL_begin 2 = .ok (.aload_n 0, 1) := by decide +kernel
theorem dL_begin_3 : decode cL_begin 3 = .ok (.invokevirtual 51, 3) := by decide +kernel
theorem dL_begin_6 : decode cL_begin 6 = .ok (.i2l, 1) := by decide +kernel
theorem dL_begin_7 : decode cL_begin 7 = .ok (.lastore, 1) := by decide +kernel
theorem dL_begin_8 : decode cL_begin 8 = .ok (.goto 6, 3) := by decide +kernel
theorem dL_begin_11 : decode cL_begin 11 = .ok (.astore_n 2, 1) := by decide +kernel
theorem dL_begin_12 : decode cL_begin 12 = .ok (.iconst 1, 1) := by decide +kernel
theorem dL_begin_13 : decode cL_begin 13 = .ok (.ireturn, 1) := by decide +kernel
theorem dL_begin_14 : decode cL_begin 14 = .ok (.iconst 0, 1) := by decide +kernel
theorem dL_begin_15 : decode cL_begin 15 = .ok (.ireturn, 1) := by decide +kernel
theorem dL_put_0 : decode cL_put 0 = .ok (.aload 4, 2) := by decide +kernel
theorem dL_put_2 : decode cL_put 2 = .ok (.iconst 0, 1) := by decide +kernel
theorem dL_put_3 : decode cL_put 3 = .ok (.aload_n 0, 1) := by decide +kernel
theorem dL_put_4 : decode cL_put 4 = .ok (.iload_n 1, 1) := by decide +kernel
theorem dL_put_5 : decode cL_put 5 = .ok (.iload_n 2, 1) := by decide +kernel
theorem dL_put_6 : decode cL_put 6 = .ok (.iload_n 3, 1) := by decide +kernel
theorem dL_put_7 : decode cL_put 7 = .ok (.invokevirtual 54, 3) := by decide +kernel
theorem dL_put_10 : decode cL_put 10 = .ok (.i2l, 1) := by decide +kernel
theorem dL_put_11 : decode cL_put 11 = .ok (.lastore, 1) := by decide +kernel
theorem dL_put_12 : decode cL_put 12 = .ok (.goto 15, 3) := by decide +kernel
theorem dL_put_15 : decode cL_put 15 = .ok (.astore 5, 2) := by decide +kernel
theorem dL_put_17 : decode cL_put 17 = .ok (.iconst 1, 1) := by decide +kernel
theorem dL_put_18 : decode cL_put 18 = .ok (.ireturn, 1) := by decide +kernel
theorem dL_put_19 : decode cL_put 19 = .ok (.astore 5, 2) := by decide +kernel
theorem dL_put_21 : decode cL_put 21 = .ok (.iconst 2, 1) := by decide +kernel
theorem dL_put_22 : decode cL_put 22 = .ok (.ireturn, 1) := by decide +kernel
theorem dL_put_23 : decode cL_put 23 = .ok (.astore 5, 2) := by decide +kernel
theorem dL_put_25 : decode cL_put 25 = .ok (.iconst 3, 1) := by decide +kernel
theorem dL_put_26 : decode cL_put 26 = .ok (.ireturn, 1) := by decide +kernel
theorem dL_put_27 : decode cL_put 27 = .ok (.iconst 0, 1) := by decide +kernel
theorem dL_put_28 : decode cL_put 28 = .ok (.ireturn, 1) := by decide +kernel
theorem dL_handIn_0 : decode cL_handIn 0 = .ok (.aload_n 2, 1) := by decide +kernel
theorem dL_handIn_1 : decode cL_handIn 1 = .ok (.iconst 0, 1) := by decide +kernel
theorem dL_handIn_2 : decode cL_handIn 2 = .ok (.aload_n 0, 1) := by decide +kernel
theorem dL_handIn_3 : decode cL_handIn 3 = .ok (.iload_n 1, 1) := by decide +kernel
theorem dL_handIn_4 : decode cL_handIn 4 = .ok (.invokevirtual 57, 3) := by decide +kernel
theorem dL_handIn_7 : decode cL_handIn 7 = .ok (.i2l, 1) := by decide +kernel
theorem dL_handIn_8 : decode cL_handIn 8 = .ok (.lastore, 1) := by decide +kernel
theorem dL_handIn_9 : decode cL_handIn 9 = .ok (.goto 9, 3) := by decide +kernel
theorem dL_handIn_12 : decode cL_handIn 12 = .ok (.astore_n 3, 1) := by decide +kernel
theorem dL_handIn_13 : decode cL_handIn 13 = .ok (.iconst 1, 1) := by decide +kernel
theorem dL_handIn_14 : decode cL_handIn 14 = .ok (.ireturn, 1) := by decide +kernel
theorem dL_handIn_15 : decode cL_handIn 15 = .ok (.astore_n 3, 1) := by decide +kernel
theorem dL_handIn_16 : decode cL_handIn 16 = .ok (.iconst 2, 1) := by decide +kernel
theorem dL_handIn_17 : decode cL_handIn 17 = .ok (.ireturn, 1) := by decide +kernel
theorem dL_handIn_18 : decode cL_handIn 18 = .ok (.iconst 0, 1) := by decide +kernel
theorem dL_handIn_19 : decode cL_handIn 19 = .ok (.ireturn, 1) := by decide +kernel
theorem dL_stateOf_0 : decode cL_stateOf 0 = .ok (.aload_n 2, 1) := by decide +kernel
theorem dL_stateOf_1 : decode cL_stateOf 1 = .ok (.iconst 0, 1) := by decide +kernel
theorem dL_stateOf_2 : decode cL_stateOf 2 = .ok (.aload_n 0, 1) := by decide +kernel
theorem dL_stateOf_3 : decode cL_stateOf 3 = .ok (.iload_n 1, 1) := by decide +kernel
theorem dL_stateOf_4 : decode cL_stateOf 4 = .ok (.invokevirtual 60, 3) := by decide +kernel
theorem dL_stateOf_7 : decode cL_stateOf 7 = .ok (.i2l, 1) := by decide +kernel
theorem dL_stateOf_8 : decode cL_stateOf 8 = .ok (.lastore, 1) := by decide +kernel
theorem dL_stateOf_9 : decode cL_stateOf 9 = .ok (.goto 6, 3) := by decide +kernel
theorem dL_stateOf_12 : decode cL_stateOf 12 = .ok (.astore_n 3, 1) := by decide +kernel
theorem dL_stateOf_13 : decode cL_stateOf 13 = .ok (.iconst 1, 1) := by decide +kernel
theorem dL_stateOf_14 : decode cL_stateOf 14 = .ok (.ireturn, 1) := by decide +kernel
theorem dL_stateOf_15 : decode cL_stateOf 15 = .ok (.iconst 0, 1) := by decide +kernel
theorem dL_stateOf_16 : decode cL_stateOf 16 = .ok (.ireturn, 1) := by decide +kernel
theorem dL_versionOf_0 : decode cL_versionOf 0 = .ok (.aload_n 2, 1) := by decide +kernel
theorem dL_versionOf_1 : decode cL_versionOf 1 = .ok (.iconst 0, 1) := by decide +kernel
theorem dL_versionOf_2 : decode cL_versionOf 2 = .ok (.aload_n 0, 1) := by decide +kernel
theorem dL_versionOf_3 : decode cL_versionOf 3 = .ok (.iload_n 1, 1) := by decide +kernel
theorem dL_versionOf_4 : decode cL_versionOf 4 = .ok (.invokevirtual 63, 3) := by decide +kernel
theorem dL_versionOf_7 : decode cL_versionOf 7 = .ok (.i2l, 1) := by decide +kernel
theorem dL_versionOf_8 : decode cL_versionOf 8 = .ok (.lastore, 1) := by decide +kernel
theorem dL_versionOf_9 : decode cL_versionOf 9 = .ok (.goto 6, 3) := by decide +kernel
theorem dL_versionOf_12 : decode cL_versionOf 12 = .ok (.astore_n 3, 1) := by decide +kernel
theorem dL_versionOf_13 : decode cL_versionOf 13 = .ok (.iconst 1, 1) := by decide +kernel
theorem dL_versionOf_14 : decode cL_versionOf 14 = .ok (.ireturn, 1) := by decide +kernel
theorem dL_versionOf_15 : decode cL_versionOf 15 = .ok (.iconst 0, 1) := by decide +kernel
theorem dL_versionOf_16 : decode cL_versionOf 16 = .ok (.ireturn, 1) := by decide +kernel
theorem dL_value_0 : decode cL_value 0 = .ok (.aload_n 3, 1) := by decide +kernel
theorem dL_value_1 : decode cL_value 1 = .ok (.iconst 0, 1) := by decide +kernel
theorem dL_value_2 : decode cL_value 2 = .ok (.aload_n 0, 1) := by decide +kernel
theorem dL_value_3 : decode cL_value 3 = .ok (.iload_n 1, 1) := by decide +kernel
theorem dL_value_4 : decode cL_value 4 = .ok (.iload_n 2, 1) := by decide +kernel
theorem dL_value_5 : decode cL_value 5 = .ok (.invokevirtual 66, 3) := by decide +kernel
theorem dL_value_8 : decode cL_value 8 = .ok (.i2l, 1) := by decide +kernel
theorem dL_value_9 : decode cL_value 9 = .ok (.lastore, 1) := by decide +kernel
theorem dL_value_10 : decode cL_value 10 = .ok (.goto 11, 3) := by decide +kernel
theorem dL_value_13 : decode cL_value 13 = .ok (.astore 4, 2) := by decide +kernel
theorem dL_value_15 : decode cL_value 15 = .ok (.iconst 1, 1) := by decide +kernel
theorem dL_value_16 : decode cL_value 16 = .ok (.ireturn, 1) := by decide +kernel
theorem dL_value_17 : decode cL_value 17 = .ok (.astore 4, 2) := by decide +kernel
theorem dL_value_19 : decode cL_value 19 = .ok (.iconst 2, 1) := by decide +kernel
theorem dL_value_20 : decode cL_value 20 = .ok (.ireturn, 1) := by decide +kernel
theorem dL_value_21 : decode cL_value 21 = .ok (.iconst 0, 1) := by decide +kernel
theorem dL_value_22 : decode cL_value 22 = .ok (.ireturn, 1) := by decide +kernel
theorem dL_refusal_0 : decode cL_refusal 0 = .ok (.aload_n 2, 1) := by decide +kernel
theorem dL_refusal_1 : decode cL_refusal 1 = .ok (.iconst 0, 1) := by decide +kernel
theorem dL_refusal_2 : decode cL_refusal 2 = .ok (.aload_n 0, 1) := by decide +kernel
theorem dL_refusal_3 : decode cL_refusal 3 = .ok (.iload_n 1, 1) := by decide +kernel
theorem dL_refusal_4 : decode cL_refusal 4 = .ok (.invokevirtual 69, 3) := by decide +kernel
theorem dL_refusal_7 : decode cL_refusal 7 = .ok (.i2l, 1) := by decide +kernel
theorem dL_refusal_8 : decode cL_refusal 8 = .ok (.lastore, 1) := by decide +kernel
theorem dL_refusal_9 : decode cL_refusal 9 = .ok (.goto 9, 3) := by decide +kernel
theorem dL_refusal_12 : decode cL_refusal 12 = .ok (.astore_n 3, 1) := by decide +kernel
theorem dL_refusal_13 : decode cL_refusal 13 = .ok (.iconst 1, 1) := by decide +kernel
theorem dL_refusal_14 : decode cL_refusal 14 = .ok (.ireturn, 1) := by decide +kernel
theorem dL_refusal_15 : decode cL_refusal 15 = .ok (.astore_n 3, 1) := by decide +kernel
theorem dL_refusal_16 : decode cL_refusal 16 = .ok (.iconst 2, 1) := by decide +kernel
theorem dL_refusal_17 : decode cL_refusal 17 = .ok (.ireturn, 1) := by decide +kernel
theorem dL_refusal_18 : decode cL_refusal 18 = .ok (.iconst 0, 1) := by decide +kernel
theorem dL_refusal_19 : decode cL_refusal 19 = .ok (.ireturn, 1) := by decide +kernel
theorem dL_doubt_0 : decode cL_doubt 0 = .ok (.aload_n 3, 1) := by decide +kernel
theorem dL_doubt_1 : decode cL_doubt 1 = .ok (.iconst 0, 1) := by decide +kernel
theorem dL_doubt_2 : decode cL_doubt 2 = .ok (.aload_n 0, 1) := by decide +kernel
theorem dL_doubt_3 : decode cL_doubt 3 = .ok (.iload_n 1, 1) := by decide +kernel
theorem dL_doubt_4 : decode cL_doubt 4 = .ok (.iload_n 2, 1) := by decide +kernel
theorem dL_doubt_5 : decode cL_doubt 5 = .ok (.invokevirtual 72, 3) := by decide +kernel
theorem dL_doubt_8 : decode cL_doubt 8 = .ok (.ifCond .eq 7, 3) := by decide +kernel
theorem dL_doubt_11 : decode cL_doubt 11 = .ok (.lconst 1, 1) := by decide +kernel
theorem dL_doubt_12 : decode cL_doubt 12 = .ok (.goto 4, 3) := by decide +kernel
theorem dL_doubt_15 : decode cL_doubt 15 = .ok (.lconst 0, 1) := by decide +kernel
theorem dL_doubt_16 : decode cL_doubt 16 = .ok (.lastore, 1) := by decide +kernel
theorem dL_doubt_17 : decode cL_doubt 17 = .ok (.goto 11, 3) := by decide +kernel
theorem dL_doubt_20 : decode cL_doubt 20 = .ok (.astore 4, 2) := by decide +kernel
theorem dL_doubt_22 : decode cL_doubt 22 = .ok (.iconst 1, 1) := by decide +kernel
theorem dL_doubt_23 : decode cL_doubt 23 = .ok (.ireturn, 1) := by decide +kernel
theorem dL_doubt_24 : decode cL_doubt 24 = .ok (.astore 4, 2) := by decide +kernel
theorem dL_doubt_26 : decode cL_doubt 26 = .ok (.iconst 2, 1) := by decide +kernel
theorem dL_doubt_27 : decode cL_doubt 27 = .ok (.ireturn, 1) := by decide +kernel
theorem dL_doubt_28 : decode cL_doubt 28 = .ok (.iconst 0, 1) := by decide +kernel
theorem dL_doubt_29 : decode cL_doubt 29 = .ok (.ireturn, 1) := by decide +kernel
theorem dL_settle_0 : decode cL_settle 0 = .ok (.aload 4, 2) := by decide +kernel
theorem dL_settle_2 : decode cL_settle 2 = .ok (.iconst 0, 1) := by decide +kernel
theorem dL_settle_3 : decode cL_settle 3 = .ok (.aload_n 0, 1) := by decide +kernel
theorem dL_settle_4 : decode cL_settle 4 = .ok (.iload_n 1, 1) := by decide +kernel
theorem dL_settle_5 : decode cL_settle 5 = .ok (.iload_n 2, 1) := by decide +kernel
theorem dL_settle_6 : decode cL_settle 6 = .ok (.iload_n 3, 1) := by decide +kernel
theorem dL_settle_7 : decode cL_settle 7 = .ok (.invokevirtual 76, 3) := by decide +kernel
theorem dL_settle_10 : decode cL_settle 10 = .ok (.i2l, 1) := by decide +kernel
theorem dL_settle_11 : decode cL_settle 11 = .ok (.lastore, 1) := by decide +kernel
theorem dL_settle_12 : decode cL_settle 12 = .ok (.goto 11, 3) := by decide +kernel
theorem dL_settle_15 : decode cL_settle 15 = .ok (.astore 5, 2) := by decide +kernel
theorem dL_settle_17 : decode cL_settle 17 = .ok (.iconst 1, 1) := by decide +kernel
theorem dL_settle_18 : decode cL_settle 18 = .ok (.ireturn, 1) := by decide +kernel
theorem dL_settle_19 : decode cL_settle 19 = .ok (.astore 5, 2) := by decide +kernel
theorem dL_settle_21 : decode cL_settle 21 = .ok (.iconst 2, 1) := by decide +kernel
theorem dL_settle_22 : decode cL_settle 22 = .ok (.ireturn, 1) := by decide +kernel
theorem dL_settle_23 : decode cL_settle 23 = .ok (.iconst 0, 1) := by decide +kernel
theorem dL_settle_24 : decode cL_settle 24 = .ok (.ireturn, 1) := by decide +kernel
theorem dL_amend_0 : decode cL_amend 0 = .ok (.aload 4, 2) := by decide +kernel
theorem dL_amend_2 : decode cL_amend 2 = .ok (.iconst 0, 1) := by decide +kernel
theorem dL_amend_3 : decode cL_amend 3 = .ok (.aload_n 0, 1) := by decide +kernel
theorem dL_amend_4 : decode cL_amend 4 = .ok (.iload_n 1, 1) := by decide +kernel
theorem dL_amend_5 : decode cL_amend 5 = .ok (.iload_n 2, 1) := by decide +kernel
theorem dL_amend_6 : decode cL_amend 6 = .ok (.iload_n 3, 1) := by decide +kernel
theorem dL_amend_7 : decode cL_amend 7 = .ok (.invokevirtual 80, 3) := by decide +kernel
theorem dL_amend_10 : decode cL_amend 10 = .ok (.i2l, 1) := by decide +kernel
theorem dL_amend_11 : decode cL_amend 11 = .ok (.lastore, 1) := by decide +kernel
theorem dL_amend_12 : decode cL_amend 12 = .ok (.goto 15, 3) := by decide +kernel
theorem dL_amend_15 : decode cL_amend 15 = .ok (.astore 5, 2) := by decide +kernel
theorem dL_amend_17 : decode cL_amend 17 = .ok (.iconst 1, 1) := by decide +kernel
theorem dL_amend_18 : decode cL_amend 18 = .ok (.ireturn, 1) := by decide +kernel
theorem dL_amend_19 : decode cL_amend 19 = .ok (.astore 5, 2) := by decide +kernel
theorem dL_amend_21 : decode cL_amend 21 = .ok (.iconst 2, 1) := by decide +kernel
theorem dL_amend_22 : decode cL_amend 22 = .ok (.ireturn, 1) := by decide +kernel
theorem dL_amend_23 : decode cL_amend 23 = .ok (.astore 5, 2) := by decide +kernel
theorem dL_amend_25 : decode cL_amend 25 = .ok (.iconst 3, 1) := by decide +kernel
theorem dL_amend_26 : decode cL_amend 26 = .ok (.ireturn, 1) := by decide +kernel
theorem dL_amend_27 : decode cL_amend 27 = .ok (.iconst 0, 1) := by decide +kernel
theorem dL_amend_28 : decode cL_amend 28 = .ok (.ireturn, 1) := by decide +kernel
theorem dL_doubts_0 : decode cL_doubts 0 = .ok (.aload_n 2, 1) := by decide +kernel
theorem dL_doubts_1 : decode cL_doubts 1 = .ok (.iconst 0, 1) := by decide +kernel
theorem dL_doubts_2 : decode cL_doubts 2 = .ok (.aload_n 0, 1) := by decide +kernel
theorem dL_doubts_3 : decode cL_doubts 3 = .ok (.iload_n 1, 1) := by decide +kernel
theorem dL_doubts_4 : decode cL_doubts 4 = .ok (.invokevirtual 83, 3) := by decide +kernel
theorem dL_doubts_7 : decode cL_doubts 7 = .ok (.i2l, 1) := by decide +kernel
theorem dL_doubts_8 : decode cL_doubts 8 = .ok (.lastore, 1) := by decide +kernel
theorem dL_doubts_9 : decode cL_doubts 9 = .ok (.goto 6, 3) := by decide +kernel
theorem dL_doubts_12 : decode cL_doubts 12 = .ok (.astore_n 3, 1) := by decide +kernel
theorem dL_doubts_13 : decode cL_doubts 13 = .ok (.iconst 1, 1) := by decide +kernel
theorem dL_doubts_14 : decode cL_doubts 14 = .ok (.ireturn, 1) := by decide +kernel
theorem dL_doubts_15 : decode cL_doubts 15 = .ok (.iconst 0, 1) := by decide +kernel
theorem dL_doubts_16 : decode cL_doubts 16 = .ok (.ireturn, 1) := by decide +kernel
theorem dL_law_0 : decode cL_law 0 = .ok (.new 8, 3) := by decide +kernel
theorem dL_law_3 : decode cL_law 3 = .ok (.dup, 1) := by decide +kernel
theorem dL_law_4 : decode cL_law 4 = .ok (.invokespecial 86, 3) := by decide +kernel
theorem dL_law_7 : decode cL_law 7 = .ok (.astore_n 1, 1) := by decide +kernel
theorem dL_law_8 : decode cL_law 8 = .ok (.new 87, 3) := by decide +kernel
theorem dL_law_11 : decode cL_law 11 = .ok (.dup, 1) := by decide +kernel
theorem dL_law_12 : decode cL_law 12 = .ok (.invokespecial 89, 3) := by decide +kernel
theorem dL_law_15 : decode cL_law 15 = .ok (.astore_n 2, 1) := by decide +kernel
theorem dL_law_16 : decode cL_law 16 = .ok (.iconst 1, 1) := by decide +kernel
theorem dL_law_17 : decode cL_law 17 = .ok (.newarray .long, 2) := by decide +kernel
theorem dL_law_19 : decode cL_law 19 = .ok (.astore_n 3, 1) := by decide +kernel
theorem dL_law_20 : decode cL_law 20 = .ok (.iconst 0, 1) := by decide +kernel
theorem dL_law_21 : decode cL_law 21 = .ok (.istore 4, 2) := by decide +kernel
theorem dL_law_23 : decode cL_law 23 = .ok (.iload 4, 2) := by decide +kernel
theorem dL_law_25 : decode cL_law 25 = .ok (.aload_n 0, 1) := by decide +kernel
theorem dL_law_26 : decode cL_law 26 = .ok (.arraylength, 1) := by decide +kernel
theorem dL_law_27 : decode cL_law 27 = .ok (.iconst 4, 1) := by decide +kernel
theorem dL_law_28 : decode cL_law 28 = .ok (.isub, 1) := by decide +kernel
theorem dL_law_29 : decode cL_law 29 = .ok (.if_icmp .gt 1533, 3) := by decide +kernel
theorem dL_law_32 : decode cL_law 32 = .ok (.aload_n 0, 1) := by decide +kernel
theorem dL_law_33 : decode cL_law 33 = .ok (.iload 4, 2) := by decide +kernel
theorem dL_law_35 : decode cL_law 35 = .ok (.iaload, 1) := by decide +kernel
theorem dL_law_36 : decode cL_law 36 = .ok (.bipush 31, 2) := by decide +kernel
theorem dL_law_38 : decode cL_law 38 = .ok (.iand, 1) := by decide +kernel
theorem dL_law_39 : decode cL_law 39 = .ok (.tableswitch 1517 0 25 #[117, 175, 188, 201, 245, 313, 369, 432, 495, 539, 552, 620, 688, 768, 812, 892, 948, 961, 1017, 1073, 1141, 1197, 1210, 1285, 1381, 1461], 117) := by decide +kernel
theorem dL_law_156 : decode cL_law 156 = .ok (.aload_n 1, 1) := by decide +kernel
theorem dL_law_157 : decode cL_law 157 = .ok (.aload_n 0, 1) := by decide +kernel
theorem dL_law_158 : decode cL_law 158 = .ok (.iload 4, 2) := by decide +kernel
theorem dL_law_160 : decode cL_law 160 = .ok (.iconst 1, 1) := by decide +kernel
theorem dL_law_161 : decode cL_law 161 = .ok (.iadd, 1) := by decide +kernel
theorem dL_law_162 : decode cL_law 162 = .ok (.iaload, 1) := by decide +kernel
theorem dL_law_163 : decode cL_law 163 = .ok (.i2c, 1) := by decide +kernel
theorem dL_law_164 : decode cL_law 164 = .ok (.aload_n 3, 1) := by decide +kernel
theorem dL_law_165 : decode cL_law 165 = .ok (.invokestatic 90, 3) := by decide +kernel
theorem dL_law_168 : decode cL_law 168 = .ok (.istore 5, 2) := by decide +kernel
theorem dL_law_170 : decode cL_law 170 = .ok (.aload_n 2, 1) := by decide +kernel
theorem dL_law_171 : decode cL_law 171 = .ok (.aload_n 0, 1) := by decide +kernel
theorem dL_law_172 : decode cL_law 172 = .ok (.iload 4, 2) := by decide +kernel
theorem dL_law_174 : decode cL_law 174 = .ok (.iconst 1, 1) := by decide +kernel
theorem dL_law_175 : decode cL_law 175 = .ok (.iadd, 1) := by decide +kernel
theorem dL_law_176 : decode cL_law 176 = .ok (.iaload, 1) := by decide +kernel
theorem dL_law_177 : decode cL_law 177 = .ok (.i2c, 1) := by decide +kernel
theorem dL_law_178 : decode cL_law 178 = .ok (.invokevirtual 95, 3) := by decide +kernel
theorem dL_law_181 : decode cL_law 181 = .ok (.istore 6, 2) := by decide +kernel
theorem dL_law_183 : decode cL_law 183 = .ok (.aload_n 2, 1) := by decide +kernel
theorem dL_law_184 : decode cL_law 184 = .ok (.invokevirtual 96, 3) := by decide +kernel
theorem dL_law_187 : decode cL_law 187 = .ok (.iload 5, 2) := by decide +kernel
theorem dL_law_189 : decode cL_law 189 = .ok (.if_icmp .eq 5, 3) := by decide +kernel
theorem dL_law_192 : decode cL_law 192 = .ok (.iconst 0, 1) := by decide +kernel
theorem dL_law_193 : decode cL_law 193 = .ok (.ireturn, 1) := by decide +kernel
theorem dL_law_194 : decode cL_law 194 = .ok (.iload 5, 2) := by decide +kernel
theorem dL_law_196 : decode cL_law 196 = .ok (.ifCond .ne 15, 3) := by decide +kernel
theorem dL_law_199 : decode cL_law 199 = .ok (.aload_n 3, 1) := by decide +kernel
theorem dL_law_200 : decode cL_law 200 = .ok (.iconst 0, 1) := by decide +kernel
theorem dL_law_201 : decode cL_law 201 = .ok (.laload, 1) := by decide +kernel
theorem dL_law_202 : decode cL_law 202 = .ok (.iload 6, 2) := by decide +kernel
theorem dL_law_204 : decode cL_law 204 = .ok (.i2l, 1) := by decide +kernel
theorem dL_law_205 : decode cL_law 205 = .ok (.lcmp, 1) := by decide +kernel
theorem dL_law_206 : decode cL_law 206 = .ok (.ifCond .eq 5, 3) := by decide +kernel
theorem dL_law_209 : decode cL_law 209 = .ok (.iconst 0, 1) := by decide +kernel
theorem dL_law_210 : decode cL_law 210 = .ok (.ireturn, 1) := by decide +kernel
theorem dL_law_211 : decode cL_law 211 = .ok (.goto 1345, 3) := by decide +kernel
theorem dL_law_214 : decode cL_law 214 = .ok (.aload_n 1, 1) := by decide +kernel
theorem dL_law_215 : decode cL_law 215 = .ok (.invokevirtual 99, 3) := by decide +kernel
theorem dL_law_218 : decode cL_law 218 = .ok (.aload_n 2, 1) := by decide +kernel
theorem dL_law_219 : decode cL_law 219 = .ok (.invokevirtual 102, 3) := by decide +kernel
theorem dL_law_222 : decode cL_law 222 = .ok (.if_icmp .eq 1334, 3) := by decide +kernel
theorem dL_law_225 : decode cL_law 225 = .ok (.iconst 0, 1) := by decide +kernel
theorem dL_law_226 : decode cL_law 226 = .ok (.ireturn, 1) := by decide +kernel
theorem dL_law_227 : decode cL_law 227 = .ok (.aload_n 1, 1) := by decide +kernel
theorem dL_law_228 : decode cL_law 228 = .ok (.invokevirtual 103, 3) := by decide +kernel
theorem dL_law_231 : decode cL_law 231 = .ok (.aload_n 2, 1) := by decide +kernel
theorem dL_law_232 : decode cL_law 232 = .ok (.invokevirtual 106, 3) := by decide +kernel
theorem dL_law_235 : decode cL_law 235 = .ok (.if_icmp .eq 1321, 3) := by decide +kernel
theorem dL_law_238 : decode cL_law 238 = .ok (.iconst 0, 1) := by decide +kernel
theorem dL_law_239 : decode cL_law 239 = .ok (.ireturn, 1) := by decide +kernel
theorem dL_law_240 : decode cL_law 240 = .ok (.aload_n 1, 1) := by decide +kernel
theorem dL_law_241 : decode cL_law 241 = .ok (.aload_n 3, 1) := by decide +kernel
theorem dL_law_242 : decode cL_law 242 = .ok (.invokestatic 107, 3) := by decide +kernel
theorem dL_law_245 : decode cL_law 245 = .ok (.istore 5, 2) := by decide +kernel
theorem dL_law_247 : decode cL_law 247 = .ok (.aload_n 2, 1) := by decide +kernel
theorem dL_law_248 : decode cL_law 248 = .ok (.invokevirtual 110, 3) := by decide +kernel
theorem dL_law_251 : decode cL_law 251 = .ok (.istore 6, 2) := by decide +kernel
theorem dL_law_253 : decode cL_law 253 = .ok (.aload_n 2, 1) := by decide +kernel
theorem dL_law_254 : decode cL_law 254 = .ok (.invokevirtual 96, 3) := by decide +kernel
theorem dL_law_257 : decode cL_law 257 = .ok (.iload 5, 2) := by decide +kernel
theorem dL_law_259 : decode cL_law 259 = .ok (.if_icmp .eq 5, 3) := by decide +kernel
theorem dL_law_262 : decode cL_law 262 = .ok (.iconst 0, 1) := by decide +kernel
theorem dL_law_263 : decode cL_law 263 = .ok (.ireturn, 1) := by decide +kernel
theorem dL_law_264 : decode cL_law 264 = .ok (.iload 5, 2) := by decide +kernel
theorem dL_law_266 : decode cL_law 266 = .ok (.ifCond .ne 15, 3) := by decide +kernel
theorem dL_law_269 : decode cL_law 269 = .ok (.aload_n 3, 1) := by decide +kernel
theorem dL_law_270 : decode cL_law 270 = .ok (.iconst 0, 1) := by decide +kernel
theorem dL_law_271 : decode cL_law 271 = .ok (.laload, 1) := by decide +kernel
theorem dL_law_272 : decode cL_law 272 = .ok (.iload 6, 2) := by decide +kernel
theorem dL_law_274 : decode cL_law 274 = .ok (.i2l, 1) := by decide +kernel
theorem dL_law_275 : decode cL_law 275 = .ok (.lcmp, 1) := by decide +kernel
theorem dL_law_276 : decode cL_law 276 = .ok (.ifCond .eq 5, 3) := by decide +kernel
theorem dL_law_279 : decode cL_law 279 = .ok (.iconst 0, 1) := by decide +kernel
theorem dL_law_280 : decode cL_law 280 = .ok (.ireturn, 1) := by decide +kernel
theorem dL_law_281 : decode cL_law 281 = .ok (.goto 1275, 3) := by decide +kernel
theorem dL_law_284 : decode cL_law 284 = .ok (.aload_n 1, 1) := by decide +kernel
theorem dL_law_285 : decode cL_law 285 = .ok (.aload_n 0, 1) := by decide +kernel
theorem dL_law_286 : decode cL_law 286 = .ok (.iload 4, 2) := by decide +kernel
theorem dL_law_288 : decode cL_law 288 = .ok (.iconst 1, 1) := by decide +kernel
theorem dL_law_289 : decode cL_law 289 = .ok (.iadd, 1) := by decide +kernel
theorem dL_law_290 : decode cL_law 290 = .ok (.iaload, 1) := by decide +kernel
theorem dL_law_291 : decode cL_law 291 = .ok (.aload_n 0, 1) := by decide +kernel
theorem dL_law_292 : decode cL_law 292 = .ok (.iload 4, 2) := by decide +kernel
theorem dL_law_294 : decode cL_law 294 = .ok (.iconst 2, 1) := by decide +kernel
theorem dL_law_295 : decode cL_law 295 = .ok (.iadd, 1) := by decide +kernel
theorem dL_law_296 : decode cL_law 296 = .ok (.iaload, 1) := by decide +kernel
theorem dL_law_297 : decode cL_law 297 = .ok (.aload_n 3, 1) := by decide +kernel
theorem dL_law_298 : decode cL_law 298 = .ok (.invokestatic 111, 3) := by decide +kernel
theorem dL_law_301 : decode cL_law 301 = .ok (.istore 5, 2) := by decide +kernel
theorem dL_law_303 : decode cL_law 303 = .ok (.aload_n 2, 1) := by decide +kernel
theorem dL_law_304 : decode cL_law 304 = .ok (.aload_n 0, 1) := by decide +kernel
theorem dL_law_305 : decode cL_law 305 = .ok (.iload 4, 2) := by decide +kernel
theorem dL_law_307 : decode cL_law 307 = .ok (.iconst 1, 1) := by decide +kernel
theorem dL_law_308 : decode cL_law 308 = .ok (.iadd, 1) := by decide +kernel
theorem dL_law_309 : decode cL_law 309 = .ok (.iaload, 1) := by decide +kernel
theorem dL_law_310 : decode cL_law 310 = .ok (.aload_n 0, 1) := by decide +kernel
theorem dL_law_311 : decode cL_law 311 = .ok (.iload 4, 2) := by decide +kernel
theorem dL_law_313 : decode cL_law 313 = .ok (.iconst 2, 1) := by decide +kernel
theorem dL_law_314 : decode cL_law 314 = .ok (.iadd, 1) := by decide +kernel
theorem dL_law_315 : decode cL_law 315 = .ok (.iaload, 1) := by decide +kernel
theorem dL_law_316 : decode cL_law 316 = .ok (.invokevirtual 114, 3) := by decide +kernel
theorem dL_law_319 : decode cL_law 319 = .ok (.istore 6, 2) := by decide +kernel
theorem dL_law_321 : decode cL_law 321 = .ok (.aload_n 2, 1) := by decide +kernel
theorem dL_law_322 : decode cL_law 322 = .ok (.invokevirtual 96, 3) := by decide +kernel
theorem dL_law_325 : decode cL_law 325 = .ok (.iload 5, 2) := by decide +kernel
theorem dL_law_327 : decode cL_law 327 = .ok (.if_icmp .eq 5, 3) := by decide +kernel
theorem dL_law_330 : decode cL_law 330 = .ok (.iconst 0, 1) := by decide +kernel
theorem dL_law_331 : decode cL_law 331 = .ok (.ireturn, 1) := by decide +kernel
theorem dL_law_332 : decode cL_law 332 = .ok (.iload 5, 2) := by decide +kernel
theorem dL_law_334 : decode cL_law 334 = .ok (.ifCond .ne 15, 3) := by decide +kernel
theorem dL_law_337 : decode cL_law 337 = .ok (.aload_n 3, 1) := by decide +kernel
theorem dL_law_338 : decode cL_law 338 = .ok (.iconst 0, 1) := by decide +kernel
theorem dL_law_339 : decode cL_law 339 = .ok (.laload, 1) := by decide +kernel
theorem dL_law_340 : decode cL_law 340 = .ok (.iload 6, 2) := by decide +kernel
theorem dL_law_342 : decode cL_law 342 = .ok (.i2l, 1) := by decide +kernel
theorem dL_law_343 : decode cL_law 343 = .ok (.lcmp, 1) := by decide +kernel
theorem dL_law_344 : decode cL_law 344 = .ok (.ifCond .eq 5, 3) := by decide +kernel
theorem dL_law_347 : decode cL_law 347 = .ok (.iconst 0, 1) := by decide +kernel
theorem dL_law_348 : decode cL_law 348 = .ok (.ireturn, 1) := by decide +kernel
theorem dL_law_349 : decode cL_law 349 = .ok (.goto 1207, 3) := by decide +kernel
theorem dL_law_352 : decode cL_law 352 = .ok (.aload_n 1, 1) := by decide +kernel
theorem dL_law_353 : decode cL_law 353 = .ok (.aload_n 0, 1) := by decide +kernel
theorem dL_law_354 : decode cL_law 354 = .ok (.iload 4, 2) := by decide +kernel
theorem dL_law_356 : decode cL_law 356 = .ok (.iconst 1, 1) := by decide +kernel
theorem dL_law_357 : decode cL_law 357 = .ok (.iadd, 1) := by decide +kernel
theorem dL_law_358 : decode cL_law 358 = .ok (.iaload, 1) := by decide +kernel
theorem dL_law_359 : decode cL_law 359 = .ok (.aload_n 3, 1) := by decide +kernel
theorem dL_law_360 : decode cL_law 360 = .ok (.invokestatic 115, 3) := by decide +kernel
theorem dL_law_363 : decode cL_law 363 = .ok (.istore 5, 2) := by decide +kernel
theorem dL_law_365 : decode cL_law 365 = .ok (.aload_n 2, 1) := by decide +kernel
theorem dL_law_366 : decode cL_law 366 = .ok (.aload_n 0, 1) := by decide +kernel
theorem dL_law_367 : decode cL_law 367 = .ok (.iload 4, 2) := by decide +kernel
theorem dL_law_369 : decode cL_law 369 = .ok (.iconst 1, 1) := by decide +kernel
theorem dL_law_370 : decode cL_law 370 = .ok (.iadd, 1) := by decide +kernel
theorem dL_law_371 : decode cL_law 371 = .ok (.iaload, 1) := by decide +kernel
theorem dL_law_372 : decode cL_law 372 = .ok (.invokevirtual 118, 3) := by decide +kernel
theorem dL_law_375 : decode cL_law 375 = .ok (.istore 6, 2) := by decide +kernel
theorem dL_law_377 : decode cL_law 377 = .ok (.aload_n 2, 1) := by decide +kernel
theorem dL_law_378 : decode cL_law 378 = .ok (.invokevirtual 96, 3) := by decide +kernel
theorem dL_law_381 : decode cL_law 381 = .ok (.iload 5, 2) := by decide +kernel
theorem dL_law_383 : decode cL_law 383 = .ok (.if_icmp .eq 5, 3) := by decide +kernel
theorem dL_law_386 : decode cL_law 386 = .ok (.iconst 0, 1) := by decide +kernel
theorem dL_law_387 : decode cL_law 387 = .ok (.ireturn, 1) := by decide +kernel
theorem dL_law_388 : decode cL_law 388 = .ok (.iload 5, 2) := by decide +kernel
theorem dL_law_390 : decode cL_law 390 = .ok (.ifCond .ne 15, 3) := by decide +kernel
theorem dL_law_393 : decode cL_law 393 = .ok (.aload_n 3, 1) := by decide +kernel
theorem dL_law_394 : decode cL_law 394 = .ok (.iconst 0, 1) := by decide +kernel
theorem dL_law_395 : decode cL_law 395 = .ok (.laload, 1) := by decide +kernel
theorem dL_law_396 : decode cL_law 396 = .ok (.iload 6, 2) := by decide +kernel
theorem dL_law_398 : decode cL_law 398 = .ok (.i2l, 1) := by decide +kernel
theorem dL_law_399 : decode cL_law 399 = .ok (.lcmp, 1) := by decide +kernel
theorem dL_law_400 : decode cL_law 400 = .ok (.ifCond .eq 5, 3) := by decide +kernel
theorem dL_law_403 : decode cL_law 403 = .ok (.iconst 0, 1) := by decide +kernel
theorem dL_law_404 : decode cL_law 404 = .ok (.ireturn, 1) := by decide +kernel
theorem dL_law_405 : decode cL_law 405 = .ok (.goto 1151, 3) := by decide +kernel
theorem dL_law_408 : decode cL_law 408 = .ok (.aload_n 1, 1) := by decide +kernel
theorem dL_law_409 : decode cL_law 409 = .ok (.aload_n 0, 1) := by decide +kernel
theorem dL_law_410 : decode cL_law 410 = .ok (.iload 4, 2) := by decide +kernel
theorem dL_law_412 : decode cL_law 412 = .ok (.iconst 1, 1) := by decide +kernel
theorem dL_law_413 : decode cL_law 413 = .ok (.iadd, 1) := by decide +kernel
theorem dL_law_414 : decode cL_law 414 = .ok (.iaload, 1) := by decide +kernel
theorem dL_law_415 : decode cL_law 415 = .ok (.aload_n 3, 1) := by decide +kernel
theorem dL_law_416 : decode cL_law 416 = .ok (.invokestatic 119, 3) := by decide +kernel
theorem dL_law_419 : decode cL_law 419 = .ok (.istore 5, 2) := by decide +kernel
theorem dL_law_421 : decode cL_law 421 = .ok (.aload_n 2, 1) := by decide +kernel
theorem dL_law_422 : decode cL_law 422 = .ok (.aload_n 0, 1) := by decide +kernel
theorem dL_law_423 : decode cL_law 423 = .ok (.iload 4, 2) := by decide +kernel
theorem dL_law_425 : decode cL_law 425 = .ok (.iconst 1, 1) := by decide +kernel
theorem dL_law_426 : decode cL_law 426 = .ok (.iadd, 1) := by decide +kernel
theorem dL_law_427 : decode cL_law 427 = .ok (.iaload, 1) := by decide +kernel
theorem dL_law_428 : decode cL_law 428 = .ok (.invokevirtual 121, 3) := by decide +kernel
theorem dL_law_431 : decode cL_law 431 = .ok (.istore 6, 2) := by decide +kernel
theorem dL_law_433 : decode cL_law 433 = .ok (.aload_n 2, 1) := by decide +kernel
theorem dL_law_434 : decode cL_law 434 = .ok (.invokevirtual 96, 3) := by decide +kernel
theorem dL_law_437 : decode cL_law 437 = .ok (.iload 5, 2) := by decide +kernel
theorem dL_law_439 : decode cL_law 439 = .ok (.if_icmp .eq 5, 3) := by decide +kernel
theorem dL_law_442 : decode cL_law 442 = .ok (.iconst 0, 1) := by decide +kernel
theorem dL_law_443 : decode cL_law 443 = .ok (.ireturn, 1) := by decide +kernel
theorem dL_law_444 : decode cL_law 444 = .ok (.iload 5, 2) := by decide +kernel
theorem dL_law_446 : decode cL_law 446 = .ok (.ifCond .ne 22, 3) := by decide +kernel
theorem dL_law_449 : decode cL_law 449 = .ok (.aload_n 3, 1) := by decide +kernel
theorem dL_law_450 : decode cL_law 450 = .ok (.iconst 0, 1) := by decide +kernel
theorem dL_law_451 : decode cL_law 451 = .ok (.laload, 1) := by decide +kernel
theorem dL_law_452 : decode cL_law 452 = .ok (.iload 6, 2) := by decide +kernel
theorem dL_law_454 : decode cL_law 454 = .ok (.ifCond .eq 7, 3) := by decide +kernel
theorem dL_law_457 : decode cL_law 457 = .ok (.lconst 1, 1) := by decide +kernel
theorem dL_law_458 : decode cL_law 458 = .ok (.goto 4, 3) := by decide +kernel
theorem dL_law_461 : decode cL_law 461 = .ok (.lconst 0, 1) := by decide +kernel
theorem dL_law_462 : decode cL_law 462 = .ok (.lcmp, 1) := by decide +kernel
theorem dL_law_463 : decode cL_law 463 = .ok (.ifCond .eq 5, 3) := by decide +kernel
theorem dL_law_466 : decode cL_law 466 = .ok (.iconst 0, 1) := by decide +kernel
theorem dL_law_467 : decode cL_law 467 = .ok (.ireturn, 1) := by decide +kernel
theorem dL_law_468 : decode cL_law 468 = .ok (.goto 1088, 3) := by decide +kernel
theorem dL_law_471 : decode cL_law 471 = .ok (.aload_n 1, 1) := by decide +kernel
theorem dL_law_472 : decode cL_law 472 = .ok (.aload_n 0, 1) := by decide +kernel
theorem dL_law_473 : decode cL_law 473 = .ok (.iload 4, 2) := by decide +kernel
theorem dL_law_475 : decode cL_law 475 = .ok (.iconst 1, 1) := by decide +kernel
theorem dL_law_476 : decode cL_law 476 = .ok (.iadd, 1) := by decide +kernel
theorem dL_law_477 : decode cL_law 477 = .ok (.iaload, 1) := by decide +kernel
theorem dL_law_478 : decode cL_law 478 = .ok (.aload_n 3, 1) := by decide +kernel
theorem dL_law_479 : decode cL_law 479 = .ok (.invokestatic 122, 3) := by decide +kernel
theorem dL_law_482 : decode cL_law 482 = .ok (.istore 5, 2) := by decide +kernel
theorem dL_law_484 : decode cL_law 484 = .ok (.aload_n 2, 1) := by decide +kernel
theorem dL_law_485 : decode cL_law 485 = .ok (.aload_n 0, 1) := by decide +kernel
theorem dL_law_486 : decode cL_law 486 = .ok (.iload 4, 2) := by decide +kernel
theorem dL_law_488 : decode cL_law 488 = .ok (.iconst 1, 1) := by decide +kernel
theorem dL_law_489 : decode cL_law 489 = .ok (.iadd, 1) := by decide +kernel
theorem dL_law_490 : decode cL_law 490 = .ok (.iaload, 1) := by decide +kernel
theorem dL_law_491 : decode cL_law 491 = .ok (.invokevirtual 124, 3) := by decide +kernel
theorem dL_law_494 : decode cL_law 494 = .ok (.istore 6, 2) := by decide +kernel
theorem dL_law_496 : decode cL_law 496 = .ok (.aload_n 2, 1) := by decide +kernel
theorem dL_law_497 : decode cL_law 497 = .ok (.invokevirtual 96, 3) := by decide +kernel
theorem dL_law_500 : decode cL_law 500 = .ok (.iload 5, 2) := by decide +kernel
theorem dL_law_502 : decode cL_law 502 = .ok (.if_icmp .eq 5, 3) := by decide +kernel
theorem dL_law_505 : decode cL_law 505 = .ok (.iconst 0, 1) := by decide +kernel
theorem dL_law_506 : decode cL_law 506 = .ok (.ireturn, 1) := by decide +kernel
theorem dL_law_507 : decode cL_law 507 = .ok (.iload 5, 2) := by decide +kernel
theorem dL_law_509 : decode cL_law 509 = .ok (.ifCond .ne 22, 3) := by decide +kernel
theorem dL_law_512 : decode cL_law 512 = .ok (.aload_n 3, 1) := by decide +kernel
theorem dL_law_513 : decode cL_law 513 = .ok (.iconst 0, 1) := by decide +kernel
theorem dL_law_514 : decode cL_law 514 = .ok (.laload, 1) := by decide +kernel
theorem dL_law_515 : decode cL_law 515 = .ok (.iload 6, 2) := by decide +kernel
theorem dL_law_517 : decode cL_law 517 = .ok (.ifCond .eq 7, 3) := by decide +kernel
theorem dL_law_520 : decode cL_law 520 = .ok (.lconst 1, 1) := by decide +kernel
theorem dL_law_521 : decode cL_law 521 = .ok (.goto 4, 3) := by decide +kernel
theorem dL_law_524 : decode cL_law 524 = .ok (.lconst 0, 1) := by decide +kernel
theorem dL_law_525 : decode cL_law 525 = .ok (.lcmp, 1) := by decide +kernel
theorem dL_law_526 : decode cL_law 526 = .ok (.ifCond .eq 5, 3) := by decide +kernel
theorem dL_law_529 : decode cL_law 529 = .ok (.iconst 0, 1) := by decide +kernel
theorem dL_law_530 : decode cL_law 530 = .ok (.ireturn, 1) := by decide +kernel
theorem dL_law_531 : decode cL_law 531 = .ok (.goto 1025, 3) := by decide +kernel
theorem dL_law_534 : decode cL_law 534 = .ok (.aload_n 1, 1) := by decide +kernel
theorem dL_law_535 : decode cL_law 535 = .ok (.aload_n 3, 1) := by decide +kernel
theorem dL_law_536 : decode cL_law 536 = .ok (.invokestatic 125, 3) := by decide +kernel
theorem dL_law_539 : decode cL_law 539 = .ok (.istore 5, 2) := by decide +kernel
theorem dL_law_541 : decode cL_law 541 = .ok (.aload_n 2, 1) := by decide +kernel
theorem dL_law_542 : decode cL_law 542 = .ok (.invokevirtual 127, 3) := by decide +kernel
theorem dL_law_545 : decode cL_law 545 = .ok (.istore 6, 2) := by decide +kernel
theorem dL_law_547 : decode cL_law 547 = .ok (.aload_n 2, 1) := by decide +kernel
theorem dL_law_548 : decode cL_law 548 = .ok (.invokevirtual 96, 3) := by decide +kernel
theorem dL_law_551 : decode cL_law 551 = .ok (.iload 5, 2) := by decide +kernel
theorem dL_law_553 : decode cL_law 553 = .ok (.if_icmp .eq 5, 3) := by decide +kernel
theorem dL_law_556 : decode cL_law 556 = .ok (.iconst 0, 1) := by decide +kernel
theorem dL_law_557 : decode cL_law 557 = .ok (.ireturn, 1) := by decide +kernel
theorem dL_law_558 : decode cL_law 558 = .ok (.iload 5, 2) := by decide +kernel
theorem dL_law_560 : decode cL_law 560 = .ok (.ifCond .ne 15, 3) := by decide +kernel
theorem dL_law_563 : decode cL_law 563 = .ok (.aload_n 3, 1) := by decide +kernel
theorem dL_law_564 : decode cL_law 564 = .ok (.iconst 0, 1) := by decide +kernel
theorem dL_law_565 : decode cL_law 565 = .ok (.laload, 1) := by decide +kernel
theorem dL_law_566 : decode cL_law 566 = .ok (.iload 6, 2) := by decide +kernel
theorem dL_law_568 : decode cL_law 568 = .ok (.i2l, 1) := by decide +kernel
theorem dL_law_569 : decode cL_law 569 = .ok (.lcmp, 1) := by decide +kernel
theorem dL_law_570 : decode cL_law 570 = .ok (.ifCond .eq 5, 3) := by decide +kernel
theorem dL_law_573 : decode cL_law 573 = .ok (.iconst 0, 1) := by decide +kernel
theorem dL_law_574 : decode cL_law 574 = .ok (.ireturn, 1) := by decide +kernel
theorem dL_law_575 : decode cL_law 575 = .ok (.goto 981, 3) := by decide +kernel
theorem dL_law_578 : decode cL_law 578 = .ok (.aload_n 1, 1) := by decide +kernel
theorem dL_law_579 : decode cL_law 579 = .ok (.invokevirtual 128, 3) := by decide +kernel
theorem dL_law_582 : decode cL_law 582 = .ok (.aload_n 2, 1) := by decide +kernel
theorem dL_law_583 : decode cL_law 583 = .ok (.invokevirtual 131, 3) := by decide +kernel
theorem dL_law_586 : decode cL_law 586 = .ok (.if_icmp .eq 970, 3) := by decide +kernel
theorem dL_law_589 : decode cL_law 589 = .ok (.iconst 0, 1) := by decide +kernel
theorem dL_law_590 : decode cL_law 590 = .ok (.ireturn, 1) := by decide +kernel
theorem dL_law_591 : decode cL_law 591 = .ok (.aload_n 1, 1) := by decide +kernel
theorem dL_law_592 : decode cL_law 592 = .ok (.aload_n 0, 1) := by decide +kernel
theorem dL_law_593 : decode cL_law 593 = .ok (.iload 4, 2) := by decide +kernel
theorem dL_law_595 : decode cL_law 595 = .ok (.iconst 1, 1) := by decide +kernel
theorem dL_law_596 : decode cL_law 596 = .ok (.iadd, 1) := by decide +kernel
theorem dL_law_597 : decode cL_law 597 = .ok (.iaload, 1) := by decide +kernel
theorem dL_law_598 : decode cL_law 598 = .ok (.aload_n 0, 1) := by decide +kernel
theorem dL_law_599 : decode cL_law 599 = .ok (.iload 4, 2) := by decide +kernel
theorem dL_law_601 : decode cL_law 601 = .ok (.iconst 2, 1) := by decide +kernel
theorem dL_law_602 : decode cL_law 602 = .ok (.iadd, 1) := by decide +kernel
theorem dL_law_603 : decode cL_law 603 = .ok (.iaload, 1) := by decide +kernel
theorem dL_law_604 : decode cL_law 604 = .ok (.aload_n 3, 1) := by decide +kernel
theorem dL_law_605 : decode cL_law 605 = .ok (.invokestatic 132, 3) := by decide +kernel
theorem dL_law_608 : decode cL_law 608 = .ok (.istore 5, 2) := by decide +kernel
theorem dL_law_610 : decode cL_law 610 = .ok (.aload_n 2, 1) := by decide +kernel
theorem dL_law_611 : decode cL_law 611 = .ok (.aload_n 0, 1) := by decide +kernel
theorem dL_law_612 : decode cL_law 612 = .ok (.iload 4, 2) := by decide +kernel
theorem dL_law_614 : decode cL_law 614 = .ok (.iconst 1, 1) := by decide +kernel
theorem dL_law_615 : decode cL_law 615 = .ok (.iadd, 1) := by decide +kernel
theorem dL_law_616 : decode cL_law 616 = .ok (.iaload, 1) := by decide +kernel
theorem dL_law_617 : decode cL_law 617 = .ok (.aload_n 0, 1) := by decide +kernel
theorem dL_law_618 : decode cL_law 618 = .ok (.iload 4, 2) := by decide +kernel
theorem dL_law_620 : decode cL_law 620 = .ok (.iconst 2, 1) := by decide +kernel
theorem dL_law_621 : decode cL_law 621 = .ok (.iadd, 1) := by decide +kernel
theorem dL_law_622 : decode cL_law 622 = .ok (.iaload, 1) := by decide +kernel
theorem dL_law_623 : decode cL_law 623 = .ok (.invokevirtual 134, 3) := by decide +kernel
theorem dL_law_626 : decode cL_law 626 = .ok (.istore 6, 2) := by decide +kernel
theorem dL_law_628 : decode cL_law 628 = .ok (.aload_n 2, 1) := by decide +kernel
theorem dL_law_629 : decode cL_law 629 = .ok (.invokevirtual 96, 3) := by decide +kernel
theorem dL_law_632 : decode cL_law 632 = .ok (.iload 5, 2) := by decide +kernel
theorem dL_law_634 : decode cL_law 634 = .ok (.if_icmp .eq 5, 3) := by decide +kernel
theorem dL_law_637 : decode cL_law 637 = .ok (.iconst 0, 1) := by decide +kernel
theorem dL_law_638 : decode cL_law 638 = .ok (.ireturn, 1) := by decide +kernel
theorem dL_law_639 : decode cL_law 639 = .ok (.iload 5, 2) := by decide +kernel
theorem dL_law_641 : decode cL_law 641 = .ok (.ifCond .ne 15, 3) := by decide +kernel
theorem dL_law_644 : decode cL_law 644 = .ok (.aload_n 3, 1) := by decide +kernel
theorem dL_law_645 : decode cL_law 645 = .ok (.iconst 0, 1) := by decide +kernel
theorem dL_law_646 : decode cL_law 646 = .ok (.laload, 1) := by decide +kernel
theorem dL_law_647 : decode cL_law 647 = .ok (.iload 6, 2) := by decide +kernel
theorem dL_law_649 : decode cL_law 649 = .ok (.i2l, 1) := by decide +kernel
theorem dL_law_650 : decode cL_law 650 = .ok (.lcmp, 1) := by decide +kernel
theorem dL_law_651 : decode cL_law 651 = .ok (.ifCond .eq 5, 3) := by decide +kernel
theorem dL_law_654 : decode cL_law 654 = .ok (.iconst 0, 1) := by decide +kernel
theorem dL_law_655 : decode cL_law 655 = .ok (.ireturn, 1) := by decide +kernel
theorem dL_law_656 : decode cL_law 656 = .ok (.goto 900, 3) := by decide +kernel
theorem dL_law_659 : decode cL_law 659 = .ok (.aload_n 1, 1) := by decide +kernel
theorem dL_law_660 : decode cL_law 660 = .ok (.aload_n 0, 1) := by decide +kernel
theorem dL_law_661 : decode cL_law 661 = .ok (.iload 4, 2) := by decide +kernel
theorem dL_law_663 : decode cL_law 663 = .ok (.iconst 1, 1) := by decide +kernel
theorem dL_law_664 : decode cL_law 664 = .ok (.iadd, 1) := by decide +kernel
theorem dL_law_665 : decode cL_law 665 = .ok (.iaload, 1) := by decide +kernel
theorem dL_law_666 : decode cL_law 666 = .ok (.aload_n 0, 1) := by decide +kernel
theorem dL_law_667 : decode cL_law 667 = .ok (.iload 4, 2) := by decide +kernel
theorem dL_law_669 : decode cL_law 669 = .ok (.iconst 2, 1) := by decide +kernel
theorem dL_law_670 : decode cL_law 670 = .ok (.iadd, 1) := by decide +kernel
theorem dL_law_671 : decode cL_law 671 = .ok (.iaload, 1) := by decide +kernel
theorem dL_law_672 : decode cL_law 672 = .ok (.aload_n 3, 1) := by decide +kernel
theorem dL_law_673 : decode cL_law 673 = .ok (.invokestatic 135, 3) := by decide +kernel
theorem dL_law_676 : decode cL_law 676 = .ok (.istore 5, 2) := by decide +kernel
theorem dL_law_678 : decode cL_law 678 = .ok (.aload_n 2, 1) := by decide +kernel
theorem dL_law_679 : decode cL_law 679 = .ok (.aload_n 0, 1) := by decide +kernel
theorem dL_law_680 : decode cL_law 680 = .ok (.iload 4, 2) := by decide +kernel
theorem dL_law_682 : decode cL_law 682 = .ok (.iconst 1, 1) := by decide +kernel
theorem dL_law_683 : decode cL_law 683 = .ok (.iadd, 1) := by decide +kernel
theorem dL_law_684 : decode cL_law 684 = .ok (.iaload, 1) := by decide +kernel
theorem dL_law_685 : decode cL_law 685 = .ok (.aload_n 0, 1) := by decide +kernel
theorem dL_law_686 : decode cL_law 686 = .ok (.iload 4, 2) := by decide +kernel
theorem dL_law_688 : decode cL_law 688 = .ok (.iconst 2, 1) := by decide +kernel
theorem dL_law_689 : decode cL_law 689 = .ok (.iadd, 1) := by decide +kernel
theorem dL_law_690 : decode cL_law 690 = .ok (.iaload, 1) := by decide +kernel
theorem dL_law_691 : decode cL_law 691 = .ok (.invokevirtual 137, 3) := by decide +kernel
theorem dL_law_694 : decode cL_law 694 = .ok (.istore 6, 2) := by decide +kernel
theorem dL_law_696 : decode cL_law 696 = .ok (.aload_n 2, 1) := by decide +kernel
theorem dL_law_697 : decode cL_law 697 = .ok (.invokevirtual 96, 3) := by decide +kernel
theorem dL_law_700 : decode cL_law 700 = .ok (.iload 5, 2) := by decide +kernel
theorem dL_law_702 : decode cL_law 702 = .ok (.if_icmp .eq 5, 3) := by decide +kernel
theorem dL_law_705 : decode cL_law 705 = .ok (.iconst 0, 1) := by decide +kernel
theorem dL_law_706 : decode cL_law 706 = .ok (.ireturn, 1) := by decide +kernel
theorem dL_law_707 : decode cL_law 707 = .ok (.iload 5, 2) := by decide +kernel
theorem dL_law_709 : decode cL_law 709 = .ok (.ifCond .ne 15, 3) := by decide +kernel
theorem dL_law_712 : decode cL_law 712 = .ok (.aload_n 3, 1) := by decide +kernel
theorem dL_law_713 : decode cL_law 713 = .ok (.iconst 0, 1) := by decide +kernel
theorem dL_law_714 : decode cL_law 714 = .ok (.laload, 1) := by decide +kernel
theorem dL_law_715 : decode cL_law 715 = .ok (.iload 6, 2) := by decide +kernel
theorem dL_law_717 : decode cL_law 717 = .ok (.i2l, 1) := by decide +kernel
theorem dL_law_718 : decode cL_law 718 = .ok (.lcmp, 1) := by decide +kernel
theorem dL_law_719 : decode cL_law 719 = .ok (.ifCond .eq 5, 3) := by decide +kernel
theorem dL_law_722 : decode cL_law 722 = .ok (.iconst 0, 1) := by decide +kernel
theorem dL_law_723 : decode cL_law 723 = .ok (.ireturn, 1) := by decide +kernel
theorem dL_law_724 : decode cL_law 724 = .ok (.goto 832, 3) := by decide +kernel
theorem dL_law_727 : decode cL_law 727 = .ok (.aload_n 1, 1) := by decide +kernel
theorem dL_law_728 : decode cL_law 728 = .ok (.aload_n 0, 1) := by decide +kernel
theorem dL_law_729 : decode cL_law 729 = .ok (.iload 4, 2) := by decide +kernel
theorem dL_law_731 : decode cL_law 731 = .ok (.iconst 1, 1) := by decide +kernel
theorem dL_law_732 : decode cL_law 732 = .ok (.iadd, 1) := by decide +kernel
theorem dL_law_733 : decode cL_law 733 = .ok (.iaload, 1) := by decide +kernel
theorem dL_law_734 : decode cL_law 734 = .ok (.aload_n 0, 1) := by decide +kernel
theorem dL_law_735 : decode cL_law 735 = .ok (.iload 4, 2) := by decide +kernel
theorem dL_law_737 : decode cL_law 737 = .ok (.iconst 2, 1) := by decide +kernel
theorem dL_law_738 : decode cL_law 738 = .ok (.iadd, 1) := by decide +kernel
theorem dL_law_739 : decode cL_law 739 = .ok (.iaload, 1) := by decide +kernel
theorem dL_law_740 : decode cL_law 740 = .ok (.aload_n 0, 1) := by decide +kernel
theorem dL_law_741 : decode cL_law 741 = .ok (.iload 4, 2) := by decide +kernel
theorem dL_law_743 : decode cL_law 743 = .ok (.iconst 3, 1) := by decide +kernel
theorem dL_law_744 : decode cL_law 744 = .ok (.iadd, 1) := by decide +kernel
theorem dL_law_745 : decode cL_law 745 = .ok (.iaload, 1) := by decide +kernel
theorem dL_law_746 : decode cL_law 746 = .ok (.aload_n 3, 1) := by decide +kernel
theorem dL_law_747 : decode cL_law 747 = .ok (.invokestatic 138, 3) := by decide +kernel
theorem dL_law_750 : decode cL_law 750 = .ok (.istore 5, 2) := by decide +kernel
theorem dL_law_752 : decode cL_law 752 = .ok (.aload_n 2, 1) := by decide +kernel
theorem dL_law_753 : decode cL_law 753 = .ok (.aload_n 0, 1) := by decide +kernel
theorem dL_law_754 : decode cL_law 754 = .ok (.iload 4, 2) := by decide +kernel
theorem dL_law_756 : decode cL_law 756 = .ok (.iconst 1, 1) := by decide +kernel
theorem dL_law_757 : decode cL_law 757 = .ok (.iadd, 1) := by decide +kernel
theorem dL_law_758 : decode cL_law 758 = .ok (.iaload, 1) := by decide +kernel
theorem dL_law_759 : decode cL_law 759 = .ok (.aload_n 0, 1) := by decide +kernel
theorem dL_law_760 : decode cL_law 760 = .ok (.iload 4, 2) := by decide +kernel
theorem dL_law_762 : decode cL_law 762 = .ok (.iconst 2, 1) := by decide +kernel
theorem dL_law_763 : decode cL_law 763 = .ok (.iadd, 1) := by decide +kernel
theorem dL_law_764 : decode cL_law 764 = .ok (.iaload, 1) := by decide +kernel
theorem dL_law_765 : decode cL_law 765 = .ok (.aload_n 0, 1) := by decide +kernel
theorem dL_law_766 : decode cL_law 766 = .ok (.iload 4, 2) := by decide +kernel
theorem dL_law_768 : decode cL_law 768 = .ok (.iconst 3, 1) := by decide +kernel
theorem dL_law_769 : decode cL_law 769 = .ok (.iadd, 1) := by decide +kernel
theorem dL_law_770 : decode cL_law 770 = .ok (.iaload, 1) := by decide +kernel
theorem dL_law_771 : decode cL_law 771 = .ok (.invokevirtual 141, 3) := by decide +kernel
theorem dL_law_774 : decode cL_law 774 = .ok (.istore 6, 2) := by decide +kernel
theorem dL_law_776 : decode cL_law 776 = .ok (.aload_n 2, 1) := by decide +kernel
theorem dL_law_777 : decode cL_law 777 = .ok (.invokevirtual 96, 3) := by decide +kernel
theorem dL_law_780 : decode cL_law 780 = .ok (.iload 5, 2) := by decide +kernel
theorem dL_law_782 : decode cL_law 782 = .ok (.if_icmp .eq 5, 3) := by decide +kernel
theorem dL_law_785 : decode cL_law 785 = .ok (.iconst 0, 1) := by decide +kernel
theorem dL_law_786 : decode cL_law 786 = .ok (.ireturn, 1) := by decide +kernel
theorem dL_law_787 : decode cL_law 787 = .ok (.iload 5, 2) := by decide +kernel
theorem dL_law_789 : decode cL_law 789 = .ok (.ifCond .ne 15, 3) := by decide +kernel
theorem dL_law_792 : decode cL_law 792 = .ok (.aload_n 3, 1) := by decide +kernel
theorem dL_law_793 : decode cL_law 793 = .ok (.iconst 0, 1) := by decide +kernel
theorem dL_law_794 : decode cL_law 794 = .ok (.laload, 1) := by decide +kernel
theorem dL_law_795 : decode cL_law 795 = .ok (.iload 6, 2) := by decide +kernel
theorem dL_law_797 : decode cL_law 797 = .ok (.i2l, 1) := by decide +kernel
theorem dL_law_798 : decode cL_law 798 = .ok (.lcmp, 1) := by decide +kernel
theorem dL_law_799 : decode cL_law 799 = .ok (.ifCond .eq 5, 3) := by decide +kernel
theorem dL_law_802 : decode cL_law 802 = .ok (.iconst 0, 1) := by decide +kernel
theorem dL_law_803 : decode cL_law 803 = .ok (.ireturn, 1) := by decide +kernel
theorem dL_law_804 : decode cL_law 804 = .ok (.goto 752, 3) := by decide +kernel
theorem dL_law_807 : decode cL_law 807 = .ok (.aload_n 1, 1) := by decide +kernel
theorem dL_law_808 : decode cL_law 808 = .ok (.aload_n 3, 1) := by decide +kernel
theorem dL_law_809 : decode cL_law 809 = .ok (.invokestatic 142, 3) := by decide +kernel
theorem dL_law_812 : decode cL_law 812 = .ok (.istore 5, 2) := by decide +kernel
theorem dL_law_814 : decode cL_law 814 = .ok (.aload_n 2, 1) := by decide +kernel
theorem dL_law_815 : decode cL_law 815 = .ok (.invokevirtual 144, 3) := by decide +kernel
theorem dL_law_818 : decode cL_law 818 = .ok (.istore 6, 2) := by decide +kernel
theorem dL_law_820 : decode cL_law 820 = .ok (.aload_n 2, 1) := by decide +kernel
theorem dL_law_821 : decode cL_law 821 = .ok (.invokevirtual 96, 3) := by decide +kernel
theorem dL_law_824 : decode cL_law 824 = .ok (.iload 5, 2) := by decide +kernel
theorem dL_law_826 : decode cL_law 826 = .ok (.if_icmp .eq 5, 3) := by decide +kernel
theorem dL_law_829 : decode cL_law 829 = .ok (.iconst 0, 1) := by decide +kernel
theorem dL_law_830 : decode cL_law 830 = .ok (.ireturn, 1) := by decide +kernel
theorem dL_law_831 : decode cL_law 831 = .ok (.iload 5, 2) := by decide +kernel
theorem dL_law_833 : decode cL_law 833 = .ok (.ifCond .ne 15, 3) := by decide +kernel
theorem dL_law_836 : decode cL_law 836 = .ok (.aload_n 3, 1) := by decide +kernel
theorem dL_law_837 : decode cL_law 837 = .ok (.iconst 0, 1) := by decide +kernel
theorem dL_law_838 : decode cL_law 838 = .ok (.laload, 1) := by decide +kernel
theorem dL_law_839 : decode cL_law 839 = .ok (.iload 6, 2) := by decide +kernel
theorem dL_law_841 : decode cL_law 841 = .ok (.i2l, 1) := by decide +kernel
theorem dL_law_842 : decode cL_law 842 = .ok (.lcmp, 1) := by decide +kernel
theorem dL_law_843 : decode cL_law 843 = .ok (.ifCond .eq 5, 3) := by decide +kernel
theorem dL_law_846 : decode cL_law 846 = .ok (.iconst 0, 1) := by decide +kernel
theorem dL_law_847 : decode cL_law 847 = .ok (.ireturn, 1) := by decide +kernel
theorem dL_law_848 : decode cL_law 848 = .ok (.goto 708, 3) := by decide +kernel
theorem dL_law_851 : decode cL_law 851 = .ok (.aload_n 1, 1) := by decide +kernel
theorem dL_law_852 : decode cL_law 852 = .ok (.aload_n 0, 1) := by decide +kernel
theorem dL_law_853 : decode cL_law 853 = .ok (.iload 4, 2) := by decide +kernel
theorem dL_law_855 : decode cL_law 855 = .ok (.iconst 1, 1) := by decide +kernel
theorem dL_law_856 : decode cL_law 856 = .ok (.iadd, 1) := by decide +kernel
theorem dL_law_857 : decode cL_law 857 = .ok (.iaload, 1) := by decide +kernel
theorem dL_law_858 : decode cL_law 858 = .ok (.aload_n 0, 1) := by decide +kernel
theorem dL_law_859 : decode cL_law 859 = .ok (.iload 4, 2) := by decide +kernel
theorem dL_law_861 : decode cL_law 861 = .ok (.iconst 2, 1) := by decide +kernel
theorem dL_law_862 : decode cL_law 862 = .ok (.iadd, 1) := by decide +kernel
theorem dL_law_863 : decode cL_law 863 = .ok (.iaload, 1) := by decide +kernel
theorem dL_law_864 : decode cL_law 864 = .ok (.aload_n 0, 1) := by decide +kernel
theorem dL_law_865 : decode cL_law 865 = .ok (.iload 4, 2) := by decide +kernel
theorem dL_law_867 : decode cL_law 867 = .ok (.iconst 3, 1) := by decide +kernel
theorem dL_law_868 : decode cL_law 868 = .ok (.iadd, 1) := by decide +kernel
theorem dL_law_869 : decode cL_law 869 = .ok (.iaload, 1) := by decide +kernel
theorem dL_law_870 : decode cL_law 870 = .ok (.aload_n 3, 1) := by decide +kernel
theorem dL_law_871 : decode cL_law 871 = .ok (.invokestatic 145, 3) := by decide +kernel
theorem dL_law_874 : decode cL_law 874 = .ok (.istore 5, 2) := by decide +kernel
theorem dL_law_876 : decode cL_law 876 = .ok (.aload_n 2, 1) := by decide +kernel
theorem dL_law_877 : decode cL_law 877 = .ok (.aload_n 0, 1) := by decide +kernel
theorem dL_law_878 : decode cL_law 878 = .ok (.iload 4, 2) := by decide +kernel
theorem dL_law_880 : decode cL_law 880 = .ok (.iconst 1, 1) := by decide +kernel
theorem dL_law_881 : decode cL_law 881 = .ok (.iadd, 1) := by decide +kernel
theorem dL_law_882 : decode cL_law 882 = .ok (.iaload, 1) := by decide +kernel
theorem dL_law_883 : decode cL_law 883 = .ok (.aload_n 0, 1) := by decide +kernel
theorem dL_law_884 : decode cL_law 884 = .ok (.iload 4, 2) := by decide +kernel
theorem dL_law_886 : decode cL_law 886 = .ok (.iconst 2, 1) := by decide +kernel
theorem dL_law_887 : decode cL_law 887 = .ok (.iadd, 1) := by decide +kernel
theorem dL_law_888 : decode cL_law 888 = .ok (.iaload, 1) := by decide +kernel
theorem dL_law_889 : decode cL_law 889 = .ok (.aload_n 0, 1) := by decide +kernel
theorem dL_law_890 : decode cL_law 890 = .ok (.iload 4, 2) := by decide +kernel
theorem dL_law_892 : decode cL_law 892 = .ok (.iconst 3, 1) := by decide +kernel
theorem dL_law_893 : decode cL_law 893 = .ok (.iadd, 1) := by decide +kernel
theorem dL_law_894 : decode cL_law 894 = .ok (.iaload, 1) := by decide +kernel
theorem dL_law_895 : decode cL_law 895 = .ok (.invokevirtual 147, 3) := by decide +kernel
theorem dL_law_898 : decode cL_law 898 = .ok (.istore 6, 2) := by decide +kernel
theorem dL_law_900 : decode cL_law 900 = .ok (.aload_n 2, 1) := by decide +kernel
theorem dL_law_901 : decode cL_law 901 = .ok (.invokevirtual 96, 3) := by decide +kernel
theorem dL_law_904 : decode cL_law 904 = .ok (.iload 5, 2) := by decide +kernel
theorem dL_law_906 : decode cL_law 906 = .ok (.if_icmp .eq 5, 3) := by decide +kernel
theorem dL_law_909 : decode cL_law 909 = .ok (.iconst 0, 1) := by decide +kernel
theorem dL_law_910 : decode cL_law 910 = .ok (.ireturn, 1) := by decide +kernel
theorem dL_law_911 : decode cL_law 911 = .ok (.iload 5, 2) := by decide +kernel
theorem dL_law_913 : decode cL_law 913 = .ok (.ifCond .ne 15, 3) := by decide +kernel
theorem dL_law_916 : decode cL_law 916 = .ok (.aload_n 3, 1) := by decide +kernel
theorem dL_law_917 : decode cL_law 917 = .ok (.iconst 0, 1) := by decide +kernel
theorem dL_law_918 : decode cL_law 918 = .ok (.laload, 1) := by decide +kernel
theorem dL_law_919 : decode cL_law 919 = .ok (.iload 6, 2) := by decide +kernel
theorem dL_law_921 : decode cL_law 921 = .ok (.i2l, 1) := by decide +kernel
theorem dL_law_922 : decode cL_law 922 = .ok (.lcmp, 1) := by decide +kernel
theorem dL_law_923 : decode cL_law 923 = .ok (.ifCond .eq 5, 3) := by decide +kernel
theorem dL_law_926 : decode cL_law 926 = .ok (.iconst 0, 1) := by decide +kernel
theorem dL_law_927 : decode cL_law 927 = .ok (.ireturn, 1) := by decide +kernel
theorem dL_law_928 : decode cL_law 928 = .ok (.goto 628, 3) := by decide +kernel
theorem dL_law_931 : decode cL_law 931 = .ok (.aload_n 1, 1) := by decide +kernel
theorem dL_law_932 : decode cL_law 932 = .ok (.aload_n 0, 1) := by decide +kernel
theorem dL_law_933 : decode cL_law 933 = .ok (.iload 4, 2) := by decide +kernel
theorem dL_law_935 : decode cL_law 935 = .ok (.iconst 1, 1) := by decide +kernel
theorem dL_law_936 : decode cL_law 936 = .ok (.iadd, 1) := by decide +kernel
theorem dL_law_937 : decode cL_law 937 = .ok (.iaload, 1) := by decide +kernel
theorem dL_law_938 : decode cL_law 938 = .ok (.aload_n 3, 1) := by decide +kernel
theorem dL_law_939 : decode cL_law 939 = .ok (.invokestatic 148, 3) := by decide +kernel
theorem dL_law_942 : decode cL_law 942 = .ok (.istore 5, 2) := by decide +kernel
theorem dL_law_944 : decode cL_law 944 = .ok (.aload_n 2, 1) := by decide +kernel
theorem dL_law_945 : decode cL_law 945 = .ok (.aload_n 0, 1) := by decide +kernel
theorem dL_law_946 : decode cL_law 946 = .ok (.iload 4, 2) := by decide +kernel
theorem dL_law_948 : decode cL_law 948 = .ok (.iconst 1, 1) := by decide +kernel
theorem dL_law_949 : decode cL_law 949 = .ok (.iadd, 1) := by decide +kernel
theorem dL_law_950 : decode cL_law 950 = .ok (.iaload, 1) := by decide +kernel
theorem dL_law_951 : decode cL_law 951 = .ok (.invokevirtual 150, 3) := by decide +kernel
theorem dL_law_954 : decode cL_law 954 = .ok (.istore 6, 2) := by decide +kernel
theorem dL_law_956 : decode cL_law 956 = .ok (.aload_n 2, 1) := by decide +kernel
theorem dL_law_957 : decode cL_law 957 = .ok (.invokevirtual 96, 3) := by decide +kernel
theorem dL_law_960 : decode cL_law 960 = .ok (.iload 5, 2) := by decide +kernel
theorem dL_law_962 : decode cL_law 962 = .ok (.if_icmp .eq 5, 3) := by decide +kernel
theorem dL_law_965 : decode cL_law 965 = .ok (.iconst 0, 1) := by decide +kernel
theorem dL_law_966 : decode cL_law 966 = .ok (.ireturn, 1) := by decide +kernel
theorem dL_law_967 : decode cL_law 967 = .ok (.iload 5, 2) := by decide +kernel
theorem dL_law_969 : decode cL_law 969 = .ok (.ifCond .ne 15, 3) := by decide +kernel
theorem dL_law_972 : decode cL_law 972 = .ok (.aload_n 3, 1) := by decide +kernel
theorem dL_law_973 : decode cL_law 973 = .ok (.iconst 0, 1) := by decide +kernel
theorem dL_law_974 : decode cL_law 974 = .ok (.laload, 1) := by decide +kernel
theorem dL_law_975 : decode cL_law 975 = .ok (.iload 6, 2) := by decide +kernel
theorem dL_law_977 : decode cL_law 977 = .ok (.i2l, 1) := by decide +kernel
theorem dL_law_978 : decode cL_law 978 = .ok (.lcmp, 1) := by decide +kernel
theorem dL_law_979 : decode cL_law 979 = .ok (.ifCond .eq 5, 3) := by decide +kernel
theorem dL_law_982 : decode cL_law 982 = .ok (.iconst 0, 1) := by decide +kernel
theorem dL_law_983 : decode cL_law 983 = .ok (.ireturn, 1) := by decide +kernel
theorem dL_law_984 : decode cL_law 984 = .ok (.goto 572, 3) := by decide +kernel
theorem dL_law_987 : decode cL_law 987 = .ok (.aload_n 1, 1) := by decide +kernel
theorem dL_law_988 : decode cL_law 988 = .ok (.invokevirtual 151, 3) := by decide +kernel
theorem dL_law_991 : decode cL_law 991 = .ok (.aload_n 2, 1) := by decide +kernel
theorem dL_law_992 : decode cL_law 992 = .ok (.invokevirtual 154, 3) := by decide +kernel
theorem dL_law_995 : decode cL_law 995 = .ok (.if_icmp .eq 561, 3) := by decide +kernel
theorem dL_law_998 : decode cL_law 998 = .ok (.iconst 0, 1) := by decide +kernel
theorem dL_law_999 : decode cL_law 999 = .ok (.ireturn, 1) := by decide +kernel
theorem dL_law_1000 : decode cL_law 1000 = .ok (.aload_n 1, 1) := by decide +kernel
theorem dL_law_1001 : decode cL_law 1001 = .ok (.aload_n 0, 1) := by decide +kernel
theorem dL_law_1002 : decode cL_law 1002 = .ok (.iload 4, 2) := by decide +kernel
theorem dL_law_1004 : decode cL_law 1004 = .ok (.iconst 1, 1) := by decide +kernel
theorem dL_law_1005 : decode cL_law 1005 = .ok (.iadd, 1) := by decide +kernel
theorem dL_law_1006 : decode cL_law 1006 = .ok (.iaload, 1) := by decide +kernel
theorem dL_law_1007 : decode cL_law 1007 = .ok (.aload_n 3, 1) := by decide +kernel
theorem dL_law_1008 : decode cL_law 1008 = .ok (.invokestatic 155, 3) := by decide +kernel
theorem dL_law_1011 : decode cL_law 1011 = .ok (.istore 5, 2) := by decide +kernel
theorem dL_law_1013 : decode cL_law 1013 = .ok (.aload_n 2, 1) := by decide +kernel
theorem dL_law_1014 : decode cL_law 1014 = .ok (.aload_n 0, 1) := by decide +kernel
theorem dL_law_1015 : decode cL_law 1015 = .ok (.iload 4, 2) := by decide +kernel
theorem dL_law_1017 : decode cL_law 1017 = .ok (.iconst 1, 1) := by decide +kernel
theorem dL_law_1018 : decode cL_law 1018 = .ok (.iadd, 1) := by decide +kernel
theorem dL_law_1019 : decode cL_law 1019 = .ok (.iaload, 1) := by decide +kernel
theorem dL_law_1020 : decode cL_law 1020 = .ok (.invokevirtual 157, 3) := by decide +kernel
theorem dL_law_1023 : decode cL_law 1023 = .ok (.istore 6, 2) := by decide +kernel
theorem dL_law_1025 : decode cL_law 1025 = .ok (.aload_n 2, 1) := by decide +kernel
theorem dL_law_1026 : decode cL_law 1026 = .ok (.invokevirtual 96, 3) := by decide +kernel
theorem dL_law_1029 : decode cL_law 1029 = .ok (.iload 5, 2) := by decide +kernel
theorem dL_law_1031 : decode cL_law 1031 = .ok (.if_icmp .eq 5, 3) := by decide +kernel
theorem dL_law_1034 : decode cL_law 1034 = .ok (.iconst 0, 1) := by decide +kernel
theorem dL_law_1035 : decode cL_law 1035 = .ok (.ireturn, 1) := by decide +kernel
theorem dL_law_1036 : decode cL_law 1036 = .ok (.iload 5, 2) := by decide +kernel
theorem dL_law_1038 : decode cL_law 1038 = .ok (.ifCond .ne 15, 3) := by decide +kernel
theorem dL_law_1041 : decode cL_law 1041 = .ok (.aload_n 3, 1) := by decide +kernel
theorem dL_law_1042 : decode cL_law 1042 = .ok (.iconst 0, 1) := by decide +kernel
theorem dL_law_1043 : decode cL_law 1043 = .ok (.laload, 1) := by decide +kernel
theorem dL_law_1044 : decode cL_law 1044 = .ok (.iload 6, 2) := by decide +kernel
theorem dL_law_1046 : decode cL_law 1046 = .ok (.i2l, 1) := by decide +kernel
theorem dL_law_1047 : decode cL_law 1047 = .ok (.lcmp, 1) := by decide +kernel
theorem dL_law_1048 : decode cL_law 1048 = .ok (.ifCond .eq 5, 3) := by decide +kernel
theorem dL_law_1051 : decode cL_law 1051 = .ok (.iconst 0, 1) := by decide +kernel
theorem dL_law_1052 : decode cL_law 1052 = .ok (.ireturn, 1) := by decide +kernel
theorem dL_law_1053 : decode cL_law 1053 = .ok (.goto 503, 3) := by decide +kernel
theorem dL_law_1056 : decode cL_law 1056 = .ok (.aload_n 1, 1) := by decide +kernel
theorem dL_law_1057 : decode cL_law 1057 = .ok (.aload_n 0, 1) := by decide +kernel
theorem dL_law_1058 : decode cL_law 1058 = .ok (.iload 4, 2) := by decide +kernel
theorem dL_law_1060 : decode cL_law 1060 = .ok (.iconst 1, 1) := by decide +kernel
theorem dL_law_1061 : decode cL_law 1061 = .ok (.iadd, 1) := by decide +kernel
theorem dL_law_1062 : decode cL_law 1062 = .ok (.iaload, 1) := by decide +kernel
theorem dL_law_1063 : decode cL_law 1063 = .ok (.aload_n 3, 1) := by decide +kernel
theorem dL_law_1064 : decode cL_law 1064 = .ok (.invokestatic 158, 3) := by decide +kernel
theorem dL_law_1067 : decode cL_law 1067 = .ok (.istore 5, 2) := by decide +kernel
theorem dL_law_1069 : decode cL_law 1069 = .ok (.aload_n 2, 1) := by decide +kernel
theorem dL_law_1070 : decode cL_law 1070 = .ok (.aload_n 0, 1) := by decide +kernel
theorem dL_law_1071 : decode cL_law 1071 = .ok (.iload 4, 2) := by decide +kernel
theorem dL_law_1073 : decode cL_law 1073 = .ok (.iconst 1, 1) := by decide +kernel
theorem dL_law_1074 : decode cL_law 1074 = .ok (.iadd, 1) := by decide +kernel
theorem dL_law_1075 : decode cL_law 1075 = .ok (.iaload, 1) := by decide +kernel
theorem dL_law_1076 : decode cL_law 1076 = .ok (.invokevirtual 160, 3) := by decide +kernel
theorem dL_law_1079 : decode cL_law 1079 = .ok (.istore 6, 2) := by decide +kernel
theorem dL_law_1081 : decode cL_law 1081 = .ok (.aload_n 2, 1) := by decide +kernel
theorem dL_law_1082 : decode cL_law 1082 = .ok (.invokevirtual 96, 3) := by decide +kernel
theorem dL_law_1085 : decode cL_law 1085 = .ok (.iload 5, 2) := by decide +kernel
theorem dL_law_1087 : decode cL_law 1087 = .ok (.if_icmp .eq 5, 3) := by decide +kernel
theorem dL_law_1090 : decode cL_law 1090 = .ok (.iconst 0, 1) := by decide +kernel
theorem dL_law_1091 : decode cL_law 1091 = .ok (.ireturn, 1) := by decide +kernel
theorem dL_law_1092 : decode cL_law 1092 = .ok (.iload 5, 2) := by decide +kernel
theorem dL_law_1094 : decode cL_law 1094 = .ok (.ifCond .ne 15, 3) := by decide +kernel
theorem dL_law_1097 : decode cL_law 1097 = .ok (.aload_n 3, 1) := by decide +kernel
theorem dL_law_1098 : decode cL_law 1098 = .ok (.iconst 0, 1) := by decide +kernel
theorem dL_law_1099 : decode cL_law 1099 = .ok (.laload, 1) := by decide +kernel
theorem dL_law_1100 : decode cL_law 1100 = .ok (.iload 6, 2) := by decide +kernel
theorem dL_law_1102 : decode cL_law 1102 = .ok (.i2l, 1) := by decide +kernel
theorem dL_law_1103 : decode cL_law 1103 = .ok (.lcmp, 1) := by decide +kernel
theorem dL_law_1104 : decode cL_law 1104 = .ok (.ifCond .eq 5, 3) := by decide +kernel
theorem dL_law_1107 : decode cL_law 1107 = .ok (.iconst 0, 1) := by decide +kernel
theorem dL_law_1108 : decode cL_law 1108 = .ok (.ireturn, 1) := by decide +kernel
theorem dL_law_1109 : decode cL_law 1109 = .ok (.goto 447, 3) := by decide +kernel
theorem dL_law_1112 : decode cL_law 1112 = .ok (.aload_n 1, 1) := by decide +kernel
theorem dL_law_1113 : decode cL_law 1113 = .ok (.aload_n 0, 1) := by decide +kernel
theorem dL_law_1114 : decode cL_law 1114 = .ok (.iload 4, 2) := by decide +kernel
theorem dL_law_1116 : decode cL_law 1116 = .ok (.iconst 1, 1) := by decide +kernel
theorem dL_law_1117 : decode cL_law 1117 = .ok (.iadd, 1) := by decide +kernel
theorem dL_law_1118 : decode cL_law 1118 = .ok (.iaload, 1) := by decide +kernel
theorem dL_law_1119 : decode cL_law 1119 = .ok (.aload_n 0, 1) := by decide +kernel
theorem dL_law_1120 : decode cL_law 1120 = .ok (.iload 4, 2) := by decide +kernel
theorem dL_law_1122 : decode cL_law 1122 = .ok (.iconst 2, 1) := by decide +kernel
theorem dL_law_1123 : decode cL_law 1123 = .ok (.iadd, 1) := by decide +kernel
theorem dL_law_1124 : decode cL_law 1124 = .ok (.iaload, 1) := by decide +kernel
theorem dL_law_1125 : decode cL_law 1125 = .ok (.aload_n 3, 1) := by decide +kernel
theorem dL_law_1126 : decode cL_law 1126 = .ok (.invokestatic 161, 3) := by decide +kernel
theorem dL_law_1129 : decode cL_law 1129 = .ok (.istore 5, 2) := by decide +kernel
theorem dL_law_1131 : decode cL_law 1131 = .ok (.aload_n 2, 1) := by decide +kernel
theorem dL_law_1132 : decode cL_law 1132 = .ok (.aload_n 0, 1) := by decide +kernel
theorem dL_law_1133 : decode cL_law 1133 = .ok (.iload 4, 2) := by decide +kernel
theorem dL_law_1135 : decode cL_law 1135 = .ok (.iconst 1, 1) := by decide +kernel
theorem dL_law_1136 : decode cL_law 1136 = .ok (.iadd, 1) := by decide +kernel
theorem dL_law_1137 : decode cL_law 1137 = .ok (.iaload, 1) := by decide +kernel
theorem dL_law_1138 : decode cL_law 1138 = .ok (.aload_n 0, 1) := by decide +kernel
theorem dL_law_1139 : decode cL_law 1139 = .ok (.iload 4, 2) := by decide +kernel
theorem dL_law_1141 : decode cL_law 1141 = .ok (.iconst 2, 1) := by decide +kernel
theorem dL_law_1142 : decode cL_law 1142 = .ok (.iadd, 1) := by decide +kernel
theorem dL_law_1143 : decode cL_law 1143 = .ok (.iaload, 1) := by decide +kernel
theorem dL_law_1144 : decode cL_law 1144 = .ok (.invokevirtual 163, 3) := by decide +kernel
theorem dL_law_1147 : decode cL_law 1147 = .ok (.istore 6, 2) := by decide +kernel
theorem dL_law_1149 : decode cL_law 1149 = .ok (.aload_n 2, 1) := by decide +kernel
theorem dL_law_1150 : decode cL_law 1150 = .ok (.invokevirtual 96, 3) := by decide +kernel
theorem dL_law_1153 : decode cL_law 1153 = .ok (.iload 5, 2) := by decide +kernel
theorem dL_law_1155 : decode cL_law 1155 = .ok (.if_icmp .eq 5, 3) := by decide +kernel
theorem dL_law_1158 : decode cL_law 1158 = .ok (.iconst 0, 1) := by decide +kernel
theorem dL_law_1159 : decode cL_law 1159 = .ok (.ireturn, 1) := by decide +kernel
theorem dL_law_1160 : decode cL_law 1160 = .ok (.iload 5, 2) := by decide +kernel
theorem dL_law_1162 : decode cL_law 1162 = .ok (.ifCond .ne 15, 3) := by decide +kernel
theorem dL_law_1165 : decode cL_law 1165 = .ok (.aload_n 3, 1) := by decide +kernel
theorem dL_law_1166 : decode cL_law 1166 = .ok (.iconst 0, 1) := by decide +kernel
theorem dL_law_1167 : decode cL_law 1167 = .ok (.laload, 1) := by decide +kernel
theorem dL_law_1168 : decode cL_law 1168 = .ok (.iload 6, 2) := by decide +kernel
theorem dL_law_1170 : decode cL_law 1170 = .ok (.i2l, 1) := by decide +kernel
theorem dL_law_1171 : decode cL_law 1171 = .ok (.lcmp, 1) := by decide +kernel
theorem dL_law_1172 : decode cL_law 1172 = .ok (.ifCond .eq 5, 3) := by decide +kernel
theorem dL_law_1175 : decode cL_law 1175 = .ok (.iconst 0, 1) := by decide +kernel
theorem dL_law_1176 : decode cL_law 1176 = .ok (.ireturn, 1) := by decide +kernel
theorem dL_law_1177 : decode cL_law 1177 = .ok (.goto 379, 3) := by decide +kernel
theorem dL_law_1180 : decode cL_law 1180 = .ok (.aload_n 1, 1) := by decide +kernel
theorem dL_law_1181 : decode cL_law 1181 = .ok (.aload_n 0, 1) := by decide +kernel
theorem dL_law_1182 : decode cL_law 1182 = .ok (.iload 4, 2) := by decide +kernel
theorem dL_law_1184 : decode cL_law 1184 = .ok (.iconst 1, 1) := by decide +kernel
theorem dL_law_1185 : decode cL_law 1185 = .ok (.iadd, 1) := by decide +kernel
theorem dL_law_1186 : decode cL_law 1186 = .ok (.iaload, 1) := by decide +kernel
theorem dL_law_1187 : decode cL_law 1187 = .ok (.aload_n 3, 1) := by decide +kernel
theorem dL_law_1188 : decode cL_law 1188 = .ok (.invokestatic 164, 3) := by decide +kernel
theorem dL_law_1191 : decode cL_law 1191 = .ok (.istore 5, 2) := by decide +kernel
theorem dL_law_1193 : decode cL_law 1193 = .ok (.aload_n 2, 1) := by decide +kernel
theorem dL_law_1194 : decode cL_law 1194 = .ok (.aload_n 0, 1) := by decide +kernel
theorem dL_law_1195 : decode cL_law 1195 = .ok (.iload 4, 2) := by decide +kernel
theorem dL_law_1197 : decode cL_law 1197 = .ok (.iconst 1, 1) := by decide +kernel
theorem dL_law_1198 : decode cL_law 1198 = .ok (.iadd, 1) := by decide +kernel
theorem dL_law_1199 : decode cL_law 1199 = .ok (.iaload, 1) := by decide +kernel
theorem dL_law_1200 : decode cL_law 1200 = .ok (.invokevirtual 166, 3) := by decide +kernel
theorem dL_law_1203 : decode cL_law 1203 = .ok (.istore 6, 2) := by decide +kernel
theorem dL_law_1205 : decode cL_law 1205 = .ok (.aload_n 2, 1) := by decide +kernel
theorem dL_law_1206 : decode cL_law 1206 = .ok (.invokevirtual 96, 3) := by decide +kernel
theorem dL_law_1209 : decode cL_law 1209 = .ok (.iload 5, 2) := by decide +kernel
theorem dL_law_1211 : decode cL_law 1211 = .ok (.if_icmp .eq 5, 3) := by decide +kernel
theorem dL_law_1214 : decode cL_law 1214 = .ok (.iconst 0, 1) := by decide +kernel
theorem dL_law_1215 : decode cL_law 1215 = .ok (.ireturn, 1) := by decide +kernel
theorem dL_law_1216 : decode cL_law 1216 = .ok (.iload 5, 2) := by decide +kernel
theorem dL_law_1218 : decode cL_law 1218 = .ok (.ifCond .ne 15, 3) := by decide +kernel
theorem dL_law_1221 : decode cL_law 1221 = .ok (.aload_n 3, 1) := by decide +kernel
theorem dL_law_1222 : decode cL_law 1222 = .ok (.iconst 0, 1) := by decide +kernel
theorem dL_law_1223 : decode cL_law 1223 = .ok (.laload, 1) := by decide +kernel
theorem dL_law_1224 : decode cL_law 1224 = .ok (.iload 6, 2) := by decide +kernel
theorem dL_law_1226 : decode cL_law 1226 = .ok (.i2l, 1) := by decide +kernel
theorem dL_law_1227 : decode cL_law 1227 = .ok (.lcmp, 1) := by decide +kernel
theorem dL_law_1228 : decode cL_law 1228 = .ok (.ifCond .eq 5, 3) := by decide +kernel
theorem dL_law_1231 : decode cL_law 1231 = .ok (.iconst 0, 1) := by decide +kernel
theorem dL_law_1232 : decode cL_law 1232 = .ok (.ireturn, 1) := by decide +kernel
theorem dL_law_1233 : decode cL_law 1233 = .ok (.goto 323, 3) := by decide +kernel
theorem dL_law_1236 : decode cL_law 1236 = .ok (.aload_n 1, 1) := by decide +kernel
theorem dL_law_1237 : decode cL_law 1237 = .ok (.invokevirtual 167, 3) := by decide +kernel
theorem dL_law_1240 : decode cL_law 1240 = .ok (.aload_n 2, 1) := by decide +kernel
theorem dL_law_1241 : decode cL_law 1241 = .ok (.invokevirtual 170, 3) := by decide +kernel
theorem dL_law_1244 : decode cL_law 1244 = .ok (.if_icmp .eq 312, 3) := by decide +kernel
theorem dL_law_1247 : decode cL_law 1247 = .ok (.iconst 0, 1) := by decide +kernel
theorem dL_law_1248 : decode cL_law 1248 = .ok (.ireturn, 1) := by decide +kernel
theorem dL_law_1249 : decode cL_law 1249 = .ok (.aload_n 1, 1) := by decide +kernel
theorem dL_law_1250 : decode cL_law 1250 = .ok (.aload_n 0, 1) := by decide +kernel
theorem dL_law_1251 : decode cL_law 1251 = .ok (.iload 4, 2) := by decide +kernel
theorem dL_law_1253 : decode cL_law 1253 = .ok (.iconst 1, 1) := by decide +kernel
theorem dL_law_1254 : decode cL_law 1254 = .ok (.iadd, 1) := by decide +kernel
theorem dL_law_1255 : decode cL_law 1255 = .ok (.iaload, 1) := by decide +kernel
theorem dL_law_1256 : decode cL_law 1256 = .ok (.aload_n 0, 1) := by decide +kernel
theorem dL_law_1257 : decode cL_law 1257 = .ok (.iload 4, 2) := by decide +kernel
theorem dL_law_1259 : decode cL_law 1259 = .ok (.iconst 2, 1) := by decide +kernel
theorem dL_law_1260 : decode cL_law 1260 = .ok (.iadd, 1) := by decide +kernel
theorem dL_law_1261 : decode cL_law 1261 = .ok (.iaload, 1) := by decide +kernel
theorem dL_law_1262 : decode cL_law 1262 = .ok (.aload_n 3, 1) := by decide +kernel
theorem dL_law_1263 : decode cL_law 1263 = .ok (.invokestatic 171, 3) := by decide +kernel
theorem dL_law_1266 : decode cL_law 1266 = .ok (.istore 5, 2) := by decide +kernel
theorem dL_law_1268 : decode cL_law 1268 = .ok (.aload_n 2, 1) := by decide +kernel
theorem dL_law_1269 : decode cL_law 1269 = .ok (.aload_n 0, 1) := by decide +kernel
theorem dL_law_1270 : decode cL_law 1270 = .ok (.iload 4, 2) := by decide +kernel
theorem dL_law_1272 : decode cL_law 1272 = .ok (.iconst 1, 1) := by decide +kernel
theorem dL_law_1273 : decode cL_law 1273 = .ok (.iadd, 1) := by decide +kernel
theorem dL_law_1274 : decode cL_law 1274 = .ok (.iaload, 1) := by decide +kernel
theorem dL_law_1275 : decode cL_law 1275 = .ok (.aload_n 0, 1) := by decide +kernel
theorem dL_law_1276 : decode cL_law 1276 = .ok (.iload 4, 2) := by decide +kernel
theorem dL_law_1278 : decode cL_law 1278 = .ok (.iconst 2, 1) := by decide +kernel
theorem dL_law_1279 : decode cL_law 1279 = .ok (.iadd, 1) := by decide +kernel
theorem dL_law_1280 : decode cL_law 1280 = .ok (.iaload, 1) := by decide +kernel
theorem dL_law_1281 : decode cL_law 1281 = .ok (.invokevirtual 173, 3) := by decide +kernel
theorem dL_law_1284 : decode cL_law 1284 = .ok (.istore 6, 2) := by decide +kernel
theorem dL_law_1286 : decode cL_law 1286 = .ok (.aload_n 2, 1) := by decide +kernel
theorem dL_law_1287 : decode cL_law 1287 = .ok (.invokevirtual 96, 3) := by decide +kernel
theorem dL_law_1290 : decode cL_law 1290 = .ok (.iload 5, 2) := by decide +kernel
theorem dL_law_1292 : decode cL_law 1292 = .ok (.if_icmp .eq 5, 3) := by decide +kernel
theorem dL_law_1295 : decode cL_law 1295 = .ok (.iconst 0, 1) := by decide +kernel
theorem dL_law_1296 : decode cL_law 1296 = .ok (.ireturn, 1) := by decide +kernel
theorem dL_law_1297 : decode cL_law 1297 = .ok (.iload 5, 2) := by decide +kernel
theorem dL_law_1299 : decode cL_law 1299 = .ok (.ifCond .ne 22, 3) := by decide +kernel
theorem dL_law_1302 : decode cL_law 1302 = .ok (.aload_n 3, 1) := by decide +kernel
theorem dL_law_1303 : decode cL_law 1303 = .ok (.iconst 0, 1) := by decide +kernel
theorem dL_law_1304 : decode cL_law 1304 = .ok (.laload, 1) := by decide +kernel
theorem dL_law_1305 : decode cL_law 1305 = .ok (.iload 6, 2) := by decide +kernel
theorem dL_law_1307 : decode cL_law 1307 = .ok (.ifCond .eq 7, 3) := by decide +kernel
theorem dL_law_1310 : decode cL_law 1310 = .ok (.lconst 1, 1) := by decide +kernel
theorem dL_law_1311 : decode cL_law 1311 = .ok (.goto 4, 3) := by decide +kernel
theorem dL_law_1314 : decode cL_law 1314 = .ok (.lconst 0, 1) := by decide +kernel
theorem dL_law_1315 : decode cL_law 1315 = .ok (.lcmp, 1) := by decide +kernel
theorem dL_law_1316 : decode cL_law 1316 = .ok (.ifCond .eq 5, 3) := by decide +kernel
theorem dL_law_1319 : decode cL_law 1319 = .ok (.iconst 0, 1) := by decide +kernel
theorem dL_law_1320 : decode cL_law 1320 = .ok (.ireturn, 1) := by decide +kernel
theorem dL_law_1321 : decode cL_law 1321 = .ok (.goto 235, 3) := by decide +kernel
theorem dL_law_1324 : decode cL_law 1324 = .ok (.aload_n 1, 1) := by decide +kernel
theorem dL_law_1325 : decode cL_law 1325 = .ok (.aload_n 0, 1) := by decide +kernel
theorem dL_law_1326 : decode cL_law 1326 = .ok (.iload 4, 2) := by decide +kernel
theorem dL_law_1328 : decode cL_law 1328 = .ok (.iconst 1, 1) := by decide +kernel
theorem dL_law_1329 : decode cL_law 1329 = .ok (.iadd, 1) := by decide +kernel
theorem dL_law_1330 : decode cL_law 1330 = .ok (.iaload, 1) := by decide +kernel
theorem dL_law_1331 : decode cL_law 1331 = .ok (.aload_n 0, 1) := by decide +kernel
theorem dL_law_1332 : decode cL_law 1332 = .ok (.iload 4, 2) := by decide +kernel
theorem dL_law_1334 : decode cL_law 1334 = .ok (.iconst 2, 1) := by decide +kernel
theorem dL_law_1335 : decode cL_law 1335 = .ok (.iadd, 1) := by decide +kernel
theorem dL_law_1336 : decode cL_law 1336 = .ok (.iaload, 1) := by decide +kernel
theorem dL_law_1337 : decode cL_law 1337 = .ok (.aload_n 0, 1) := by decide +kernel
theorem dL_law_1338 : decode cL_law 1338 = .ok (.iload 4, 2) := by decide +kernel
theorem dL_law_1340 : decode cL_law 1340 = .ok (.iconst 3, 1) := by decide +kernel
theorem dL_law_1341 : decode cL_law 1341 = .ok (.iadd, 1) := by decide +kernel
theorem dL_law_1342 : decode cL_law 1342 = .ok (.iaload, 1) := by decide +kernel
theorem dL_law_1343 : decode cL_law 1343 = .ok (.ifCond .eq 7, 3) := by decide +kernel
theorem dL_law_1346 : decode cL_law 1346 = .ok (.iconst 1, 1) := by decide +kernel
theorem dL_law_1347 : decode cL_law 1347 = .ok (.goto 4, 3) := by decide +kernel
theorem dL_law_1350 : decode cL_law 1350 = .ok (.iconst 0, 1) := by decide +kernel
theorem dL_law_1351 : decode cL_law 1351 = .ok (.aload_n 3, 1) := by decide +kernel
theorem dL_law_1352 : decode cL_law 1352 = .ok (.invokestatic 174, 3) := by decide +kernel
theorem dL_law_1355 : decode cL_law 1355 = .ok (.istore 5, 2) := by decide +kernel
theorem dL_law_1357 : decode cL_law 1357 = .ok (.aload_n 2, 1) := by decide +kernel
theorem dL_law_1358 : decode cL_law 1358 = .ok (.aload_n 0, 1) := by decide +kernel
theorem dL_law_1359 : decode cL_law 1359 = .ok (.iload 4, 2) := by decide +kernel
theorem dL_law_1361 : decode cL_law 1361 = .ok (.iconst 1, 1) := by decide +kernel
theorem dL_law_1362 : decode cL_law 1362 = .ok (.iadd, 1) := by decide +kernel
theorem dL_law_1363 : decode cL_law 1363 = .ok (.iaload, 1) := by decide +kernel
theorem dL_law_1364 : decode cL_law 1364 = .ok (.aload_n 0, 1) := by decide +kernel
theorem dL_law_1365 : decode cL_law 1365 = .ok (.iload 4, 2) := by decide +kernel
theorem dL_law_1367 : decode cL_law 1367 = .ok (.iconst 2, 1) := by decide +kernel
theorem dL_law_1368 : decode cL_law 1368 = .ok (.iadd, 1) := by decide +kernel
theorem dL_law_1369 : decode cL_law 1369 = .ok (.iaload, 1) := by decide +kernel
theorem dL_law_1370 : decode cL_law 1370 = .ok (.aload_n 0, 1) := by decide +kernel
theorem dL_law_1371 : decode cL_law 1371 = .ok (.iload 4, 2) := by decide +kernel
theorem dL_law_1373 : decode cL_law 1373 = .ok (.iconst 3, 1) := by decide +kernel
theorem dL_law_1374 : decode cL_law 1374 = .ok (.iadd, 1) := by decide +kernel
theorem dL_law_1375 : decode cL_law 1375 = .ok (.iaload, 1) := by decide +kernel
theorem dL_law_1376 : decode cL_law 1376 = .ok (.ifCond .eq 7, 3) := by decide +kernel
theorem dL_law_1379 : decode cL_law 1379 = .ok (.iconst 1, 1) := by decide +kernel
theorem dL_law_1380 : decode cL_law 1380 = .ok (.goto 4, 3) := by decide +kernel
theorem dL_law_1383 : decode cL_law 1383 = .ok (.iconst 0, 1) := by decide +kernel
theorem dL_law_1384 : decode cL_law 1384 = .ok (.invokevirtual 177, 3) := by decide +kernel
theorem dL_law_1387 : decode cL_law 1387 = .ok (.istore 6, 2) := by decide +kernel
theorem dL_law_1389 : decode cL_law 1389 = .ok (.aload_n 2, 1) := by decide +kernel
theorem dL_law_1390 : decode cL_law 1390 = .ok (.invokevirtual 96, 3) := by decide +kernel
theorem dL_law_1393 : decode cL_law 1393 = .ok (.iload 5, 2) := by decide +kernel
theorem dL_law_1395 : decode cL_law 1395 = .ok (.if_icmp .eq 5, 3) := by decide +kernel
theorem dL_law_1398 : decode cL_law 1398 = .ok (.iconst 0, 1) := by decide +kernel
theorem dL_law_1399 : decode cL_law 1399 = .ok (.ireturn, 1) := by decide +kernel
theorem dL_law_1400 : decode cL_law 1400 = .ok (.iload 5, 2) := by decide +kernel
theorem dL_law_1402 : decode cL_law 1402 = .ok (.ifCond .ne 15, 3) := by decide +kernel
theorem dL_law_1405 : decode cL_law 1405 = .ok (.aload_n 3, 1) := by decide +kernel
theorem dL_law_1406 : decode cL_law 1406 = .ok (.iconst 0, 1) := by decide +kernel
theorem dL_law_1407 : decode cL_law 1407 = .ok (.laload, 1) := by decide +kernel
theorem dL_law_1408 : decode cL_law 1408 = .ok (.iload 6, 2) := by decide +kernel
theorem dL_law_1410 : decode cL_law 1410 = .ok (.i2l, 1) := by decide +kernel
theorem dL_law_1411 : decode cL_law 1411 = .ok (.lcmp, 1) := by decide +kernel
theorem dL_law_1412 : decode cL_law 1412 = .ok (.ifCond .eq 5, 3) := by decide +kernel
theorem dL_law_1415 : decode cL_law 1415 = .ok (.iconst 0, 1) := by decide +kernel
theorem dL_law_1416 : decode cL_law 1416 = .ok (.ireturn, 1) := by decide +kernel
theorem dL_law_1417 : decode cL_law 1417 = .ok (.goto 139, 3) := by decide +kernel
theorem dL_law_1420 : decode cL_law 1420 = .ok (.aload_n 1, 1) := by decide +kernel
theorem dL_law_1421 : decode cL_law 1421 = .ok (.aload_n 0, 1) := by decide +kernel
theorem dL_law_1422 : decode cL_law 1422 = .ok (.iload 4, 2) := by decide +kernel
theorem dL_law_1424 : decode cL_law 1424 = .ok (.iconst 1, 1) := by decide +kernel
theorem dL_law_1425 : decode cL_law 1425 = .ok (.iadd, 1) := by decide +kernel
theorem dL_law_1426 : decode cL_law 1426 = .ok (.iaload, 1) := by decide +kernel
theorem dL_law_1427 : decode cL_law 1427 = .ok (.aload_n 0, 1) := by decide +kernel
theorem dL_law_1428 : decode cL_law 1428 = .ok (.iload 4, 2) := by decide +kernel
theorem dL_law_1430 : decode cL_law 1430 = .ok (.iconst 2, 1) := by decide +kernel
theorem dL_law_1431 : decode cL_law 1431 = .ok (.iadd, 1) := by decide +kernel
theorem dL_law_1432 : decode cL_law 1432 = .ok (.iaload, 1) := by decide +kernel
theorem dL_law_1433 : decode cL_law 1433 = .ok (.aload_n 0, 1) := by decide +kernel
theorem dL_law_1434 : decode cL_law 1434 = .ok (.iload 4, 2) := by decide +kernel
theorem dL_law_1436 : decode cL_law 1436 = .ok (.iconst 3, 1) := by decide +kernel
theorem dL_law_1437 : decode cL_law 1437 = .ok (.iadd, 1) := by decide +kernel
theorem dL_law_1438 : decode cL_law 1438 = .ok (.iaload, 1) := by decide +kernel
theorem dL_law_1439 : decode cL_law 1439 = .ok (.aload_n 3, 1) := by decide +kernel
theorem dL_law_1440 : decode cL_law 1440 = .ok (.invokestatic 178, 3) := by decide +kernel
theorem dL_law_1443 : decode cL_law 1443 = .ok (.istore 5, 2) := by decide +kernel
theorem dL_law_1445 : decode cL_law 1445 = .ok (.aload_n 2, 1) := by decide +kernel
theorem dL_law_1446 : decode cL_law 1446 = .ok (.aload_n 0, 1) := by decide +kernel
theorem dL_law_1447 : decode cL_law 1447 = .ok (.iload 4, 2) := by decide +kernel
theorem dL_law_1449 : decode cL_law 1449 = .ok (.iconst 1, 1) := by decide +kernel
theorem dL_law_1450 : decode cL_law 1450 = .ok (.iadd, 1) := by decide +kernel
theorem dL_law_1451 : decode cL_law 1451 = .ok (.iaload, 1) := by decide +kernel
theorem dL_law_1452 : decode cL_law 1452 = .ok (.aload_n 0, 1) := by decide +kernel
theorem dL_law_1453 : decode cL_law 1453 = .ok (.iload 4, 2) := by decide +kernel
theorem dL_law_1455 : decode cL_law 1455 = .ok (.iconst 2, 1) := by decide +kernel
theorem dL_law_1456 : decode cL_law 1456 = .ok (.iadd, 1) := by decide +kernel
theorem dL_law_1457 : decode cL_law 1457 = .ok (.iaload, 1) := by decide +kernel
theorem dL_law_1458 : decode cL_law 1458 = .ok (.aload_n 0, 1) := by decide +kernel
theorem dL_law_1459 : decode cL_law 1459 = .ok (.iload 4, 2) := by decide +kernel
theorem dL_law_1461 : decode cL_law 1461 = .ok (.iconst 3, 1) := by decide +kernel
theorem dL_law_1462 : decode cL_law 1462 = .ok (.iadd, 1) := by decide +kernel
theorem dL_law_1463 : decode cL_law 1463 = .ok (.iaload, 1) := by decide +kernel
theorem dL_law_1464 : decode cL_law 1464 = .ok (.invokevirtual 180, 3) := by decide +kernel
theorem dL_law_1467 : decode cL_law 1467 = .ok (.istore 6, 2) := by decide +kernel
theorem dL_law_1469 : decode cL_law 1469 = .ok (.aload_n 2, 1) := by decide +kernel
theorem dL_law_1470 : decode cL_law 1470 = .ok (.invokevirtual 96, 3) := by decide +kernel
theorem dL_law_1473 : decode cL_law 1473 = .ok (.iload 5, 2) := by decide +kernel
theorem dL_law_1475 : decode cL_law 1475 = .ok (.if_icmp .eq 5, 3) := by decide +kernel
theorem dL_law_1478 : decode cL_law 1478 = .ok (.iconst 0, 1) := by decide +kernel
theorem dL_law_1479 : decode cL_law 1479 = .ok (.ireturn, 1) := by decide +kernel
theorem dL_law_1480 : decode cL_law 1480 = .ok (.iload 5, 2) := by decide +kernel
theorem dL_law_1482 : decode cL_law 1482 = .ok (.ifCond .ne 15, 3) := by decide +kernel
theorem dL_law_1485 : decode cL_law 1485 = .ok (.aload_n 3, 1) := by decide +kernel
theorem dL_law_1486 : decode cL_law 1486 = .ok (.iconst 0, 1) := by decide +kernel
theorem dL_law_1487 : decode cL_law 1487 = .ok (.laload, 1) := by decide +kernel
theorem dL_law_1488 : decode cL_law 1488 = .ok (.iload 6, 2) := by decide +kernel
theorem dL_law_1490 : decode cL_law 1490 = .ok (.i2l, 1) := by decide +kernel
theorem dL_law_1491 : decode cL_law 1491 = .ok (.lcmp, 1) := by decide +kernel
theorem dL_law_1492 : decode cL_law 1492 = .ok (.ifCond .eq 5, 3) := by decide +kernel
theorem dL_law_1495 : decode cL_law 1495 = .ok (.iconst 0, 1) := by decide +kernel
theorem dL_law_1496 : decode cL_law 1496 = .ok (.ireturn, 1) := by decide +kernel
theorem dL_law_1497 : decode cL_law 1497 = .ok (.goto 59, 3) := by decide +kernel
theorem dL_law_1500 : decode cL_law 1500 = .ok (.aload_n 1, 1) := by decide +kernel
theorem dL_law_1501 : decode cL_law 1501 = .ok (.aload_n 0, 1) := by decide +kernel
theorem dL_law_1502 : decode cL_law 1502 = .ok (.iload 4, 2) := by decide +kernel
theorem dL_law_1504 : decode cL_law 1504 = .ok (.iconst 1, 1) := by decide +kernel
theorem dL_law_1505 : decode cL_law 1505 = .ok (.iadd, 1) := by decide +kernel
theorem dL_law_1506 : decode cL_law 1506 = .ok (.iaload, 1) := by decide +kernel
theorem dL_law_1507 : decode cL_law 1507 = .ok (.aload_n 3, 1) := by decide +kernel
theorem dL_law_1508 : decode cL_law 1508 = .ok (.invokestatic 181, 3) := by decide +kernel
theorem dL_law_1511 : decode cL_law 1511 = .ok (.istore 5, 2) := by decide +kernel
theorem dL_law_1513 : decode cL_law 1513 = .ok (.aload_n 2, 1) := by decide +kernel
theorem dL_law_1514 : decode cL_law 1514 = .ok (.aload_n 0, 1) := by decide +kernel
theorem dL_law_1515 : decode cL_law 1515 = .ok (.iload 4, 2) := by decide +kernel
theorem dL_law_1517 : decode cL_law 1517 = .ok (.iconst 1, 1) := by decide +kernel
theorem dL_law_1518 : decode cL_law 1518 = .ok (.iadd, 1) := by decide +kernel
theorem dL_law_1519 : decode cL_law 1519 = .ok (.iaload, 1) := by decide +kernel
theorem dL_law_1520 : decode cL_law 1520 = .ok (.invokevirtual 183, 3) := by decide +kernel
theorem dL_law_1523 : decode cL_law 1523 = .ok (.istore 6, 2) := by decide +kernel
theorem dL_law_1525 : decode cL_law 1525 = .ok (.aload_n 2, 1) := by decide +kernel
theorem dL_law_1526 : decode cL_law 1526 = .ok (.invokevirtual 96, 3) := by decide +kernel
theorem dL_law_1529 : decode cL_law 1529 = .ok (.iload 5, 2) := by decide +kernel
theorem dL_law_1531 : decode cL_law 1531 = .ok (.if_icmp .eq 5, 3) := by decide +kernel
theorem dL_law_1534 : decode cL_law 1534 = .ok (.iconst 0, 1) := by decide +kernel
theorem dL_law_1535 : decode cL_law 1535 = .ok (.ireturn, 1) := by decide +kernel
theorem dL_law_1536 : decode cL_law 1536 = .ok (.iload 5, 2) := by decide +kernel
theorem dL_law_1538 : decode cL_law 1538 = .ok (.ifCond .ne 15, 3) := by decide +kernel
theorem dL_law_1541 : decode cL_law 1541 = .ok (.aload_n 3, 1) := by decide +kernel
theorem dL_law_1542 : decode cL_law 1542 = .ok (.iconst 0, 1) := by decide +kernel
theorem dL_law_1543 : decode cL_law 1543 = .ok (.laload, 1) := by decide +kernel
theorem dL_law_1544 : decode cL_law 1544 = .ok (.iload 6, 2) := by decide +kernel
theorem dL_law_1546 : decode cL_law 1546 = .ok (.i2l, 1) := by decide +kernel
theorem dL_law_1547 : decode cL_law 1547 = .ok (.lcmp, 1) := by decide +kernel
theorem dL_law_1548 : decode cL_law 1548 = .ok (.ifCond .eq 5, 3) := by decide +kernel
theorem dL_law_1551 : decode cL_law 1551 = .ok (.iconst 0, 1) := by decide +kernel
theorem dL_law_1552 : decode cL_law 1552 = .ok (.ireturn, 1) := by decide +kernel
theorem dL_law_1553 : decode cL_law 1553 = .ok (.goto 3, 3) := by decide +kernel
theorem dL_law_1556 : decode cL_law 1556 = .ok (.iinc 4 4, 3) := by decide +kernel
theorem dL_law_1559 : decode cL_law 1559 = .ok (.goto (-1536), 3) := by decide +kernel
theorem dL_law_1562 : decode cL_law 1562 = .ok (.iconst 1, 1) := by decide +kernel
theorem dL_law_1563 : decode cL_law 1563 = .ok (.ireturn, 1) := by decide +kernel
end
section
/-! ===== AW: the machine over a world whose cells are numbered in the order of their making ===== -/
def aw_v (ad : Nat → Nat) (v : Value) : Value := match v with
  | .ref k => .ref (ad k)
  | v => v
def aw_x (ad : Nat → Nat) (x : vp_A) : vp_A := (x.1, match x.2 with
  | .inr (.inr (.inr (.inr f))) => .inr (.inr (.inr (.inr (fun j => (f j).map ad))))
  | y => y)
def aw_e (cA : Nat → ClassId) (ad : Nat → Nat) (e : va_E) : va_E := match e with
  | .inl a => .inl (cA a.1, aw_x ad a.2)
  | .inr o => .inr (o.1, o.2.map (aw_v ad))
def aw_w (cA : Nat → ClassId) (ad : Nat → Nat) (w : List va_E) : va_W := w.mapIdx (fun i e => (ad i, aw_e cA ad e))
def aw_vok (n : Nat) (v : Value) : Prop := ∀ k : Nat, v = .ref k → k < n
def aw_eok (n : Nat) (e : va_E) : Prop := match e with
  | .inl a => ∀ f : Nat → Option Nat, a.2.2 = .inr (.inr (.inr (.inr f))) → ∀ j k : Nat, f j = some k → k < n
  | .inr o => ∀ v ∈ o.2, aw_vok n v
def aw_wok (w : List va_E) : Prop := ∀ (i : Nat) (e : va_E), w[i]? = some e → aw_eok w.length e
theorem aw_v_cat (ad : Nat → Nat) (v : Value) : (aw_v ad v).category = v.category := by cases v <;> rfl
theorem aw_cats (ad : Nat → Nat) (st : List Value) : ((st.map (aw_v ad)).map fun v => v.category).sum = (st.map fun v => v.category).sum := by
  rw [List.map_map]
  congr 1
  exact List.map_congr_left fun v _ => aw_v_cat ad v
theorem aw_vok_int {n : Nat} {x : Int32} : aw_vok n (.int x) := fun k h => by cases h
theorem aw_vok_long {n : Nat} {x : Int64} : aw_vok n (.long x) := fun k h => by cases h
theorem aw_vok_null {n : Nat} : aw_vok n .null := fun k h => by cases h
theorem aw_vok_ref {n k : Nat} (h : k < n) : aw_vok n (.ref k) := fun j e => by cases e; exact h
theorem aw_vok_rf {n : Nat} {r : Option Nat} (h : ∀ k, r = some k → k < n) : aw_vok n (va_rf r) := by
  cases r with
  | none => exact aw_vok_null
  | some k => exact aw_vok_ref (h k rfl)
theorem aw_vok_mono {n m : Nat} (h : n ≤ m) {v : Value} (hv : aw_vok n v) : aw_vok m v := fun k e => Nat.lt_of_lt_of_le (hv k e) h
theorem aw_eok_mono {n m : Nat} (h : n ≤ m) {e : va_E} (he : aw_eok n e) : aw_eok m e := by
  cases e with
  | inl a => exact fun f hf j k hk => Nat.lt_of_lt_of_le (he f hf j k hk) h
  | inr o => exact fun v hv => aw_vok_mono h (he v hv)
theorem aw_v_congr {ad ad' : Nat → Nat} {n : Nat} (h : ∀ k, k < n → ad' k = ad k) {v : Value} (hv : aw_vok n v) : aw_v ad' v = aw_v ad v := by
  cases v with
  | ref k => exact congrArg Value.ref (h k (hv k rfl))
  | _ => rfl
theorem aw_vs_congr {ad ad' : Nat → Nat} {n : Nat} (h : ∀ k, k < n → ad' k = ad k) {vs : List Value} (hv : ∀ v ∈ vs, aw_vok n v) : vs.map (aw_v ad') = vs.map (aw_v ad) :=
  List.map_congr_left fun v hm => aw_v_congr h (hv v hm)
theorem aw_e_congr {cA : Nat → ClassId} {ad ad' : Nat → Nat} {n : Nat} (h : ∀ k, k < n → ad' k = ad k) {e : va_E} (he : aw_eok n e) : aw_e cA ad' e = aw_e cA ad e := by
  cases e with
  | inl a =>
    obtain ⟨t, m, f | f | f | f | f⟩ := a
    · rfl
    · rfl
    · rfl
    · rfl
    · have hf : (fun j => (f j).map ad') = fun j => (f j).map ad := by
        funext j
        cases hj : f j with
        | none => rfl
        | some k => exact congrArg some (h k (he f rfl j k hj))
      exact congrArg (fun z : Nat → Option Nat => (Sum.inl (cA t, m, Sum.inr (Sum.inr (Sum.inr (Sum.inr z)))) : va_E)) hf
  | inr o =>
    show Sum.inr (o.1, o.2.map (aw_v ad')) = Sum.inr (o.1, o.2.map (aw_v ad))
    rw [aw_vs_congr h he]
theorem aw_w_at (cA : Nat → ClassId) (ad : Nat → Nat) (w : List va_E) (i : Nat) : (aw_w cA ad w)[i]? = (w[i]?).map (fun e => (ad i, aw_e cA ad e)) := by
  unfold aw_w
  rw [List.getElem?_mapIdx]
theorem aw_w_some {cA : Nat → ClassId} {ad : Nat → Nat} {w : List va_E} {i : Nat} {e : va_E} (h : w[i]? = some e) : (aw_w cA ad w)[i]? = some (ad i, aw_e cA ad e) := by
  rw [aw_w_at, h]; rfl
theorem aw_w_len (cA : Nat → ClassId) (ad : Nat → Nat) (w : List va_E) : (aw_w cA ad w).length = w.length := by
  unfold aw_w
  exact List.length_mapIdx
theorem aw_w_set (cA : Nat → ClassId) (ad : Nat → Nat) (w : List va_E) (i : Nat) (e : va_E) : (aw_w cA ad w).set i (ad i, aw_e cA ad e) = aw_w cA ad (w.set i e) := by
  apply List.ext_getElem?
  intro j
  rw [aw_w_at, List.getElem?_set, List.getElem?_set, aw_w_len]
  by_cases hij : i = j
  · subst hij
    rw [if_pos rfl, if_pos rfl]
    by_cases hl : i < w.length
    · rw [if_pos hl, if_pos hl]; rfl
    · rw [if_neg hl, if_neg hl]; rfl
  · rw [if_neg hij, if_neg hij, aw_w_at]
theorem aw_w_congr {cA : Nat → ClassId} {ad ad' : Nat → Nat} {w : List va_E} (hw : aw_wok w) (h : ∀ k, k < w.length → ad' k = ad k) : aw_w cA ad' w = aw_w cA ad w := by
  apply List.ext_getElem?
  intro j
  rw [aw_w_at, aw_w_at]
  cases hj : w[j]? with
  | none => rfl
  | some e =>
    have hl : j < w.length := (List.getElem?_eq_some_iff.mp hj).1
    show some (ad' j, aw_e cA ad' e) = some (ad j, aw_e cA ad e)
    rw [h j hl, aw_e_congr h (hw j e hj)]
theorem aw_up_old {ad : Nat → Nat} {n q : Nat} : ∀ k, k < n → va_up ad n q k = ad k := fun k hk => va_up_ne ad q (Nat.ne_of_lt hk)
theorem aw_w_push {cA : Nat → ClassId} {ad : Nat → Nat} {w : List va_E} {e : va_E} {q : Nat} (hw : aw_wok w) (he : aw_eok w.length e) : aw_w cA (va_up ad w.length q) (w ++ [e]) = aw_w cA ad w ++ [(q, aw_e cA ad e)] := by
  apply List.ext_getElem?
  intro j
  rw [aw_w_at]
  by_cases hl : j < w.length
  · rw [List.getElem?_append_left hl, List.getElem?_append_left (by rw [aw_w_len]; exact hl), aw_w_at]
    obtain ⟨e1, h1⟩ : ∃ e1, w[j]? = some e1 := ⟨_, List.getElem?_eq_getElem hl⟩
    rw [h1]
    show some (va_up ad w.length q j, aw_e cA _ e1) = some (ad j, aw_e cA ad e1)
    rw [aw_up_old j hl, aw_e_congr aw_up_old (hw j e1 h1)]
  · have hl2 : w.length ≤ j := Nat.le_of_not_lt hl
    rw [List.getElem?_append_right hl2, List.getElem?_append_right (by rw [aw_w_len]; exact hl2), aw_w_len]
    cases hz : j - w.length with
    | zero =>
      have hj : j = w.length := by omega
      subst hj
      show some (va_up ad w.length q w.length, aw_e cA _ e) = some (q, aw_e cA ad e)
      rw [va_up_self, aw_e_congr aw_up_old he]
    | succ z => rfl
theorem aw_wok_push {w : List va_E} {e : va_E} (hw : aw_wok w) (he : aw_eok w.length e) : aw_wok (w ++ [e]) := by
  intro i e1 h
  have hle : w.length ≤ (w ++ [e]).length := by rw [List.length_append]; omega
  by_cases hl : i < w.length
  · rw [List.getElem?_append_left hl] at h
    exact aw_eok_mono hle (hw i e1 h)
  · rw [List.getElem?_append_right (Nat.le_of_not_lt hl)] at h
    cases hz : i - w.length with
    | zero => rw [hz] at h; cases h; exact aw_eok_mono hle he
    | succ z => rw [hz] at h; cases h
theorem aw_wok_set {w : List va_E} {i : Nat} {e : va_E} (hw : aw_wok w) (he : aw_eok w.length e) : aw_wok (w.set i e) := by
  intro j e1 h
  rw [List.length_set]
  rw [List.getElem?_set] at h
  by_cases hij : i = j
  · rw [if_pos hij] at h
    by_cases hl : i < w.length
    · rw [if_pos hl] at h; cases h; exact he
    · rw [if_neg hl] at h; cases h
  · rw [if_neg hij] at h
    exact hw j e1 h
-- locals
def aw_l (ad : Nat → Nat) (loc : List (Option Value)) : List (Nat × Value) := loc.zipIdx.filterMap (fun q => q.1.map (fun v => (q.2, aw_v ad v)))
theorem aw_l_mem {ad : Nat → Nat} {loc : List (Option Value)} {q : Nat × Value} : q ∈ aw_l ad loc ↔ ∃ v, loc[q.1]? = some (some v) ∧ q.2 = aw_v ad v := by
  unfold aw_l
  rw [List.mem_filterMap]
  constructor
  · rintro ⟨⟨o, i⟩, h1, h2⟩
    have h3 := List.mem_zipIdx_iff_getElem?.mp h1
    cases o with
    | none => cases h2
    | some v => cases h2; exact ⟨v, h3, rfl⟩
  · rintro ⟨v, h1, h2⟩
    refine ⟨(some v, q.1), List.mem_zipIdx_iff_getElem?.mpr h1, ?_⟩
    show some (q.1, aw_v ad v) = some q
    rw [← h2]
theorem aw_l_at {ad : Nat → Nat} {loc : List (Option Value)} {ls : Array Slot} {nL i : Nat} {v : Value} (h : lv_has ls nL (aw_l ad loc)) (hi : loc[i]? = some (some v)) : ls[i]? = some (.val (aw_v ad v)) := h.2.2 (i, aw_v ad v) (aw_l_mem.mpr ⟨v, hi, rfl⟩)
def aw_lok (n : Nat) (loc : List (Option Value)) : Prop := ∀ (i : Nat) (v : Value), loc[i]? = some (some v) → aw_vok n v ∧ v.category = 1
theorem aw_l_congr {ad ad' : Nat → Nat} {loc : List (Option Value)} {n : Nat} (h : ∀ k, k < n → ad' k = ad k) (hl : aw_lok n loc) {ls : Array Slot} {nL : Nat} (hh : lv_has ls nL (aw_l ad loc)) : lv_has ls nL (aw_l ad' loc) := by
  refine ⟨hh.1, hh.2.1, fun q hq => ?_⟩
  obtain ⟨v, h1, h2⟩ := aw_l_mem.mp hq
  rw [h2, aw_v_congr h (hl q.1 v h1).1]
  exact aw_l_at hh h1
theorem aw_l_store {ad : Nat → Nat} {loc loc' : List (Option Value)} {ls : Array Slot} {nL n i : Nat} {v : Value} (hl : aw_lok n loc) (h : lv_has ls nL ((i, aw_v ad v) :: (aw_l ad loc).filter (fun q => !(q.1 == i) && !(q.1 + 1 == i && q.2.category == 2)))) (e : loc.set i (some v) = loc') : lv_has ls nL (aw_l ad loc') := by
  subst e
  refine ⟨h.1, h.2.1, fun q hq => ?_⟩
  obtain ⟨v1, h1, h2⟩ := aw_l_mem.mp hq
  rw [List.getElem?_set] at h1
  by_cases hq1 : i = q.1
  · rw [if_pos hq1] at h1
    by_cases hlt : i < loc.length
    · rw [if_pos hlt] at h1
      cases h1
      exact h.2.2 q (by obtain ⟨a, b⟩ := q; cases hq1; cases h2; exact List.mem_cons_self)
    · rw [if_neg hlt] at h1; cases h1
  · rw [if_neg hq1] at h1
    refine h.2.2 q (List.mem_cons_of_mem _ (List.mem_filter.mpr ⟨aw_l_mem.mpr ⟨v1, h1, h2⟩, ?_⟩))
    have hc := (hl q.1 v1 h1).2
    have h3 : q.2.category = 1 := by rw [h2, aw_v_cat]; exact hc
    have h4 : (q.1 == i) = false := by simpa using fun z => hq1 z.symm
    rw [h4, h3]
    simp
theorem aw_lok_store {n i : Nat} {loc loc' : List (Option Value)} {v : Value} (hl : aw_lok n loc) (hv : aw_vok n v) (hc : v.category = 1) (e : loc.set i (some v) = loc') : aw_lok n loc' := by
  subst e
  intro j v1 h1
  rw [List.getElem?_set] at h1
  by_cases hq1 : i = j
  · rw [if_pos hq1] at h1
    by_cases hlt : i < loc.length
    · rw [if_pos hlt] at h1; cases h1; exact ⟨hv, hc⟩
    · rw [if_neg hlt] at h1; cases h1
  · rw [if_neg hq1] at h1; exact hl j v1 h1
theorem aw_lok_mono {n m : Nat} (h : n ≤ m) {loc : List (Option Value)} (hl : aw_lok n loc) : aw_lok m loc := fun i v e => ⟨aw_vok_mono h (hl i v e).1, (hl i v e).2⟩
/-- a local is forgotten -/
theorem aw_l_drop {ad : Nat → Nat} {loc loc' : List (Option Value)} {ls : Array Slot} {nL : Nat} (h : lv_has ls nL (aw_l ad loc)) (e : ∀ (i : Nat) (v : Value), loc'[i]? = some (some v) → loc[i]? = some (some v)) : lv_has ls nL (aw_l ad loc') := by
  refine ⟨h.1, h.2.1, fun q hq => ?_⟩
  obtain ⟨v1, h1, h2⟩ := aw_l_mem.mp hq
  exact h.2.2 q (aw_l_mem.mpr ⟨v1, e _ _ h1, h2⟩)
-- a method's entry: its arguments, all of one slot
theorem aw_args : ∀ (vs : List Value) (i : Nat), (∀ v ∈ vs, v.category = 1) → ∀ (j : Nat) (v : Value), vs[j]? = some v → (i + j, v) ∈ lv_args i vs
  | [], _, _, j, v, h => by cases h
  | x :: vs, i, hc, 0, v, h => by cases h; exact List.mem_cons_self
  | x :: vs, i, hc, j + 1, v, h => by
    have h1 : x.category = 1 := hc x List.mem_cons_self
    have h2 := aw_args vs (i + 1) (fun v hv => hc v (List.mem_cons_of_mem _ hv)) j v h
    have h3 : lv_args i (x :: vs) = (i, x) :: lv_args (i + 1) vs := by simp [lv_args, h1]
    rw [h3, show i + (j + 1) = i + 1 + j by omega]
    exact List.mem_cons_of_mem _ h2
theorem aw_slen : ∀ (vs : List Value), (∀ v ∈ vs, v.category = 1) → (lg_sl vs).length = vs.length
  | [], _ => rfl
  | x :: vs, hc => by
    have h1 : x.category = 1 := hc x List.mem_cons_self
    have h2 := aw_slen vs (fun v hv => hc v (List.mem_cons_of_mem _ hv))
    unfold lg_sl at h2 ⊢
    rw [List.flatMap_cons, List.length_append, h2, if_neg (by rw [h1]; decide)]
    simp [Nat.add_comm]
end
section
/-! ===== AW: its words, and a row an instruction ===== -/
abbrev aw_G : Type := Launch × State × Array Value × (Nat → ClassId) × (Nat → Nat → Nat) × (Nat → ClassId)
abbrev aw_F : Type := String × MethodName × ByteArray × Nat × Option FieldType × List (Nat × Nat × Nat × Nat) × Nat × Nat × Nat × Nat
abbrev aw_own (F : aw_F) : String := F.1
abbrev aw_y (F : aw_F) : MethodName := F.2.1
abbrev aw_c (F : aw_F) : ByteArray := F.2.2.1
abbrev aw_nL (F : aw_F) : Nat := F.2.2.2.1
abbrev aw_rt (F : aw_F) : Option FieldType := F.2.2.2.2.1
abbrev aw_hh (F : aw_F) : List (Nat × Nat × Nat × Nat) := F.2.2.2.2.2.1
abbrev aw_fr (F : aw_F) : Nat := F.2.2.2.2.2.2.1
abbrev aw_lo (F : aw_F) : Nat := F.2.2.2.2.2.2.2.1
abbrev aw_mc (F : aw_F) : Nat := F.2.2.2.2.2.2.2.2.1
abbrev aw_ms (F : aw_F) : Nat := F.2.2.2.2.2.2.2.2.2
abbrev aw_R : Type := Option Value ⊕ String
def aw_code (F : aw_F) : Cond := match aw_hh F with
  | [] => .code (aw_y F) (aw_c F) (aw_nL F) (aw_rt F)
  | _ :: _ => .codeWith (aw_y F) (aw_c F) (aw_nL F) (aw_rt F) (aw_hh F)
def aw_room (F : aw_F) : Room := { frames := aw_fr F, cells := aw_mc F, slots := aw_ms F, locals := aw_lo F }
def aw_ztb : List Cond := lw_tbl.filter goodWord
theorem aw_zw (i : Nat) {w : Cond} (h : lw_tbl[i]? = some w) (hg : goodWord w = true) : w ∈ aw_ztb := List.mem_filter.mpr ⟨List.mem_of_getElem? h, hg⟩
def aw_tys (cA : Nat → ClassId) : List (ClassId × FieldType) := [(cA 0, .int), (cA 1, .boolean), (cA 2, .char), (cA 3, .long), (cA 4, .object RX1), (cA 5, .object RX2), (cA 6, .object RX0)]
def aw_A (G : aw_G) : Nat → Prop := fun q => G.2.1.heap.size ≤ q
def aw_str : List (Nat × String) := [(46, "the text is full"), (61, "the text is no formula"), (229, "no such field"), (77, "no such type"), (232, "no such formula"), (94, "the formula would be broken"), (99, "a field would hang on itself"), (116, "there are 10 versions"), (236, "no such version"), (234, "no such place"), (149, "no version, or 20 answers"), (238, "no such answer"), (164, "not OPEN, or no field to put a value into"), (170, "the value is out of range"), (178, "not OPEN, or a value is missing"), (189, "the field has no value"), (194, "the answer is OPEN"), (206, "neither COUNTED nor HELD, or the field is ABSENT"), (214, "not HELD, or not doubted in the field"), (222, "not HELD, or no field to amend")]
def aw_ok (G : aw_G) : Prop := G.1.flags = flags0 ∧ (∀ w ∈ lw_tbl, w.before G.2.2.1 G.2.1 = true) ∧ va_K (G.2.2.2.1, G.2.2.2.2.1) vwCl (aw_tys G.2.2.2.2.2) G.2.1 ∧ vx_Zq Bundle.tN "UNASSIGNED_STACK" Bundle.steD (aw_A G) G.2.1 G.2.1.heap ∧ vx_Zq Bundle.tN "SUPPRESSED_SENTINEL" Bundle.listD (aw_A G) G.2.1 G.2.1.heap ∧ ∀ q ∈ aw_str, ∃ a : Nat, vk_R RX7 q.1 q.2 a G.2.1
def aw_old (G : aw_G) (U : State) : Prop := G.2.1.WarmedH U.vm ∧ G.2.1.heap.size ≤ U.heap.size ∧ ∀ q : Nat, q < G.2.1.heap.size → U.heap[q]? = G.2.1.heap[q]?
def aw_B (G : aw_G) (ad : Nat → Nat) (w : List va_E) (U : State) : Prop := aw_old G U ∧ va_P (G.2.2.2.1, G.2.2.2.2.1) vwCl (aw_w G.2.2.2.2.2 ad w) U.heap ∧ va_D (aw_A G) (aw_w G.2.2.2.2.2 ad w) ∧ aw_wok w
def aw_Pc (G : aw_G) (ad : Nat → Nat) (as : List Value) (w : List va_E) : Array Value → State → Prop := fun a U => a = (as.map (aw_v ad)).toArray ∧ aw_B G ad w U
def aw_Qc (G : aw_G) (ad : Nat → Nat) (n : Nat) (Q : aw_R → List va_E → Prop) : Array Value → State → Outcome → State → Prop := fun _ st o t =>
  ∃ (r : Option Value) (w' : List va_E) (ad' : Nat → Nat), o = .returned (r.map (aw_v ad')) ∧ Q (.inl r) w' ∧ (∀ k, k < n → ad' k = ad k) ∧ n ≤ w'.length ∧ (∀ v, r = some v → aw_vok w'.length v) ∧ aw_B G ad' w' t ∧ st.heap.size ≤ t.heap.size
def aw_XC (G : aw_G) (ad : Nat → Nat) (n : Nat) (Q : aw_R → List va_E → Prop) : String → State → State → Prop := fun E st t =>
  ∃ (w' : List va_E) (ad' : Nat → Nat), Q (.inr E) w' ∧ (∀ k, k < n → ad' k = ad k) ∧ n ≤ w'.length ∧ aw_B G ad' w' t ∧ st.heap.size ≤ t.heap.size
/-- a contract: with these arguments, in any heap that holds the world w, the method ends, and Q says how, and in which world -/
def AM (G : aw_G) (F : aw_F) (as : List Value) (w : List va_E) (Q : aw_R → List va_E → Prop) : Prop :=
  aw_ok G → ∀ ad : Nat → Nat, (∀ v ∈ as, aw_vok w.length v ∧ v.category = 1) → vx_Met G.1 (aw_y F) [aw_code F] (aw_room F) (aw_Pc G ad as w) (aw_Qc G ad w.length Q) (aw_XC G ad w.length Q) (aw_mc F) (aw_ms F) (aw_A G)
def aw_S (G : aw_G) (F : aw_F) (p : Program) (s : State) (args : Array Value) (m : MethodId) (meth : Method) (c : Code) : Prop :=
  p.tables.exec = Jvm.exec ∧ c.code = aw_c F ∧ c.maxLocals = aw_nL F ∧ meth.sig.returnType = aw_rt F ∧ meth.locks = false ∧ s.vm.findClass (aw_own F) = some m.cls ∧ c.exceptionTable.toList = tableOf (aw_hh F) ∧ ((aw_y F).name = "<init>" → meth.name = "<init>") ∧ aw_old G s ∧ aw_ok G
def aw_D (G : aw_G) (F : aw_F) (s : State) (adE : Nat → Nat) (nE : Nat) (w : List va_E) (loc : List (Option Value)) (st : List Value) (kc ks : Nat) (H : Heap) (locs : List Loc) (ls : Array Slot) (ad : Nat → Nat) (cells slots : Nat) : Prop :=
  va_P (G.2.2.2.1, G.2.2.2.2.1) vwCl (aw_w G.2.2.2.2.2 ad w) H ∧ va_D (aw_A G) (aw_w G.2.2.2.2.2 ad w) ∧ va_S (aw_A G) s.heap H locs ∧ aw_wok w ∧ lv_has ls (aw_nL F) (aw_l ad loc) ∧ aw_lok w.length loc ∧ (∀ v ∈ st, aw_vok w.length v) ∧ cells + kc ≤ aw_mc F ∧ slots + ks ≤ aw_ms F ∧ nE ≤ w.length ∧ ∀ k, k < nE → ad k = adE k
/-- at this place of the method F, with these locals and this stack, in any heap that holds the world w, with room for kc cells of ks slots: it ends, and Q says how -/
def AW (G : aw_G) (F : aw_F) (kc ks : Nat) (w : List va_E) (pc : Nat) (loc : List (Option Value)) (st : List Value) (Q : aw_R → List va_E → Prop) : Prop :=
  ∀ (p : Program) (e : Env) (s : State) (m : MethodId) (args : Array Value) (below : List Frame) (meth : Method) (c : Code) (adE : Nat → Nat) (nE : Nat), aw_S G F p s args m meth c →
  ∀ (H : Heap) (locs : List Loc) (ls : Array Slot) (ad : Nat → Nat) (cells slots : Nat), aw_D G F s adE nE w loc st kc ks H locs ls ad cells slots →
  W p G.1 e (aw_room F) s m args below meth c H locs cells slots (vx_MQ below (aw_Qc G adE nE Q) (aw_XC G adE nE Q) args s (aw_mc F) (aw_ms F) (aw_A G)) (F0 m pc ls (st.map (aw_v ad)))
section AWa
variable {G : aw_G} {F : aw_F} {p : Program} {s : State} {args : Array Value} {m : MethodId} {meth : Method} {c : Code}
theorem aw_hts (h : aw_S G F p s args m meth c) : ∀ w ∈ aw_ztb, w.before args s = true := by
  obtain ⟨-, -, -, -, -, -, -, -, hO, hG⟩ := h
  intro w hw
  obtain ⟨h1, h2⟩ := List.mem_filter.mp hw
  exact word_at hO.1 (good_of_word h2) (hG.2.1 w h1)
theorem aw_hK (h : aw_S G F p s args m meth c) : va_K (G.2.2.2.1, G.2.2.2.2.1) vwCl (aw_tys G.2.2.2.2.2) s := by
  obtain ⟨-, -, -, -, -, -, -, -, hO, hG⟩ := h
  exact va_K.moved hO.1.alike hG.2.2.1
theorem aw_hA (h : aw_S G F p s args m meth c) : ∀ q, s.heap.size ≤ q → aw_A G q := by
  obtain ⟨-, -, -, -, -, -, -, -, hO, hG⟩ := h
  exact fun q hq => Nat.le_trans hO.2.1 hq
end AWa
section AWb
variable {G : aw_G} {F : aw_F} {s : State} {adE : Nat → Nat} {nE : Nat} {w w' : List va_E} {loc loc' : List (Option Value)} {st st' : List Value} {kc ks : Nat} {H H' : Heap} {locs locs' : List Loc} {ls ls' : Array Slot} {ad : Nat → Nat} {cells slots : Nat}
theorem aw_D_st (h : aw_D G F s adE nE w loc st kc ks H locs ls ad cells slots) (hs : (∀ v ∈ st, aw_vok w.length v) → ∀ v ∈ st', aw_vok w.length v) : aw_D G F s adE nE w loc st' kc ks H locs ls ad cells slots := by
  obtain ⟨h1, h2, h3, h4, h5, h6, h7, h8⟩ := h
  exact ⟨h1, h2, h3, h4, h5, h6, hs h7, h8⟩
theorem aw_D_ls (h : aw_D G F s adE nE w loc st kc ks H locs ls ad cells slots) (hs : (∀ v ∈ st, aw_vok w.length v) → ∀ v ∈ st', aw_vok w.length v) (h5 : lv_has ls' (aw_nL F) (aw_l ad loc')) (h6 : aw_lok w.length loc') : aw_D G F s adE nE w loc' st' kc ks H locs ls' ad cells slots := by
  obtain ⟨h1, h2, h3, h4, -, -, h7, h8⟩ := h
  exact ⟨h1, h2, h3, h4, h5, h6, hs h7, h8⟩
theorem aw_D_put (h : aw_D G F s adE nE w loc st kc ks H locs ls ad cells slots) (hl : w'.length = w.length) (hs : (∀ v ∈ st, aw_vok w.length v) → ∀ v ∈ st', aw_vok w.length v) (h1 : va_P (G.2.2.2.1, G.2.2.2.2.1) vwCl (aw_w G.2.2.2.2.2 ad w') H') (h2 : va_D (aw_A G) (aw_w G.2.2.2.2.2 ad w')) (h3 : va_S (aw_A G) s.heap H' locs') (h4 : aw_wok w') : aw_D G F s adE nE w' loc st' kc ks H' locs' ls ad cells slots := by
  obtain ⟨-, -, -, -, h5, h6, h7, h8, h9, h10, h11⟩ := h
  exact ⟨h1, h2, h3, h4, h5, by rw [hl]; exact h6, by rw [hl]; exact hs h7, h8, h9, by rw [hl]; exact h10, h11⟩
theorem aw_s0 {n : Nat} {z : Value} (hz : aw_vok n z) : (∀ v ∈ st, aw_vok n v) → ∀ v ∈ z :: st, aw_vok n v := fun h v hv => (List.mem_cons.mp hv).elim (fun e => by rw [e]; exact hz) (h v)
theorem aw_s1 {n : Nat} {a z : Value} (hz : aw_vok n z) : (∀ v ∈ a :: st, aw_vok n v) → ∀ v ∈ z :: st, aw_vok n v := fun h => aw_s0 hz (fun v hv => h v (List.mem_cons_of_mem _ hv))
theorem aw_s2 {n : Nat} {a b z : Value} (hz : aw_vok n z) : (∀ v ∈ a :: b :: st, aw_vok n v) → ∀ v ∈ z :: st, aw_vok n v := fun h => aw_s0 hz (fun v hv => h v (List.mem_cons_of_mem _ (List.mem_cons_of_mem _ hv)))
theorem aw_d1 {n : Nat} {a : Value} : (∀ v ∈ a :: st, aw_vok n v) → ∀ v ∈ st, aw_vok n v := fun h v hv => h v (List.mem_cons_of_mem _ hv)
theorem aw_d2 {n : Nat} {a b : Value} : (∀ v ∈ a :: b :: st, aw_vok n v) → ∀ v ∈ st, aw_vok n v := fun h => aw_d1 (aw_d1 h)
theorem aw_d3 {n : Nat} {a b d : Value} : (∀ v ∈ a :: b :: d :: st, aw_vok n v) → ∀ v ∈ st, aw_vok n v := fun h => aw_d2 (aw_d1 h)
end AWb
section AWr
variable {G : aw_G} {F : aw_F} {kc ks : Nat} {w : List va_E} {pc : Nat} {loc : List (Option Value)} {st : List Value} {Q : aw_R → List va_E → Prop}
theorem r_iadd {x y : Int32} (hdg : decode (aw_c F) pc = .ok (.iadd, 1))  (k : AW G F kc ks w (pc + 1) loc (.int (x + y) :: st) Q) : AW G F kc ks w pc loc (.int y :: .int x :: st) Q := by
  intro p e s m args below meth c adE nE hS H locs ls ad cells slots hD
  obtain ⟨hx, hb, hml, hr, hlk, hown, htab, hini, hO, hG⟩ := id hS
  exact lv_iadd hx hb hdg (k p e s m args below meth c adE nE hS H locs ls ad cells slots (aw_D_st hD (aw_s2 aw_vok_int)))
theorem r_isub {x y : Int32} (hdg : decode (aw_c F) pc = .ok (.isub, 1))  (k : AW G F kc ks w (pc + 1) loc (.int (x - y) :: st) Q) : AW G F kc ks w pc loc (.int y :: .int x :: st) Q := by
  intro p e s m args below meth c adE nE hS H locs ls ad cells slots hD
  obtain ⟨hx, hb, hml, hr, hlk, hown, htab, hini, hO, hG⟩ := id hS
  exact lv_isub hx hb hdg (k p e s m args below meth c adE nE hS H locs ls ad cells slots (aw_D_st hD (aw_s2 aw_vok_int)))
theorem r_imul {x y : Int32} (hdg : decode (aw_c F) pc = .ok (.imul, 1))  (k : AW G F kc ks w (pc + 1) loc (.int (x * y) :: st) Q) : AW G F kc ks w pc loc (.int y :: .int x :: st) Q := by
  intro p e s m args below meth c adE nE hS H locs ls ad cells slots hD
  obtain ⟨hx, hb, hml, hr, hlk, hown, htab, hini, hO, hG⟩ := id hS
  exact lv_imul hx hb hdg (k p e s m args below meth c adE nE hS H locs ls ad cells slots (aw_D_st hD (aw_s2 aw_vok_int)))
theorem r_iand {x y : Int32} (hdg : decode (aw_c F) pc = .ok (.iand, 1))  (k : AW G F kc ks w (pc + 1) loc (.int (x &&& y) :: st) Q) : AW G F kc ks w pc loc (.int y :: .int x :: st) Q := by
  intro p e s m args below meth c adE nE hS H locs ls ad cells slots hD
  obtain ⟨hx, hb, hml, hr, hlk, hown, htab, hini, hO, hG⟩ := id hS
  exact lv_iand hx hb hdg (k p e s m args below meth c adE nE hS H locs ls ad cells slots (aw_D_st hD (aw_s2 aw_vok_int)))
theorem r_ior {x y : Int32} (hdg : decode (aw_c F) pc = .ok (.ior, 1))  (k : AW G F kc ks w (pc + 1) loc (.int (x ||| y) :: st) Q) : AW G F kc ks w pc loc (.int y :: .int x :: st) Q := by
  intro p e s m args below meth c adE nE hS H locs ls ad cells slots hD
  obtain ⟨hx, hb, hml, hr, hlk, hown, htab, hini, hO, hG⟩ := id hS
  exact lv_ior hx hb hdg (k p e s m args below meth c adE nE hS H locs ls ad cells slots (aw_D_st hD (aw_s2 aw_vok_int)))
theorem r_ixor {x y : Int32} (hdg : decode (aw_c F) pc = .ok (.ixor, 1))  (k : AW G F kc ks w (pc + 1) loc (.int (x ^^^ y) :: st) Q) : AW G F kc ks w pc loc (.int y :: .int x :: st) Q := by
  intro p e s m args below meth c adE nE hS H locs ls ad cells slots hD
  obtain ⟨hx, hb, hml, hr, hlk, hown, htab, hini, hO, hG⟩ := id hS
  exact lv_ixor hx hb hdg (k p e s m args below meth c adE nE hS H locs ls ad cells slots (aw_D_st hD (aw_s2 aw_vok_int)))
theorem r_idiv {x y : Int32} (hdg : decode (aw_c F) pc = .ok (.idiv, 1)) (hne : ¬ y = 0) (k : AW G F kc ks w (pc + 1) loc (.int (x / y) :: st) Q) : AW G F kc ks w pc loc (.int y :: .int x :: st) Q := by
  intro p e s m args below meth c adE nE hS H locs ls ad cells slots hD
  obtain ⟨hx, hb, hml, hr, hlk, hown, htab, hini, hO, hG⟩ := id hS
  exact lv_idiv hx hb hdg hne (k p e s m args below meth c adE nE hS H locs ls ad cells slots (aw_D_st hD (aw_s2 aw_vok_int)))
theorem r_irem {x y : Int32} (hdg : decode (aw_c F) pc = .ok (.irem, 1)) (hne : ¬ y = 0) (k : AW G F kc ks w (pc + 1) loc (.int (x - x / y * y) :: st) Q) : AW G F kc ks w pc loc (.int y :: .int x :: st) Q := by
  intro p e s m args below meth c adE nE hS H locs ls ad cells slots hD
  obtain ⟨hx, hb, hml, hr, hlk, hown, htab, hini, hO, hG⟩ := id hS
  exact lv_irem hx hb hdg hne (k p e s m args below meth c adE nE hS H locs ls ad cells slots (aw_D_st hD (aw_s2 aw_vok_int)))
theorem r_ineg {x : Int32} (hdg : decode (aw_c F) pc = .ok (.ineg, 1))  (k : AW G F kc ks w (pc + 1) loc (.int (-x) :: st) Q) : AW G F kc ks w pc loc (.int x :: st) Q := by
  intro p e s m args below meth c adE nE hS H locs ls ad cells slots hD
  obtain ⟨hx, hb, hml, hr, hlk, hown, htab, hini, hO, hG⟩ := id hS
  exact lv_ineg hx hb hdg (k p e s m args below meth c adE nE hS H locs ls ad cells slots (aw_D_st hD (aw_s1 aw_vok_int)))
theorem r_ishl {x y : Int32} (hdg : decode (aw_c F) pc = .ok (.ishl, 1))  (k : AW G F kc ks w (pc + 1) loc (.int (x <<< (y &&& 31)) :: st) Q) : AW G F kc ks w pc loc (.int y :: .int x :: st) Q := by
  intro p e s m args below meth c adE nE hS H locs ls ad cells slots hD
  obtain ⟨hx, hb, hml, hr, hlk, hown, htab, hini, hO, hG⟩ := id hS
  exact lv_ishl hx hb hdg (k p e s m args below meth c adE nE hS H locs ls ad cells slots (aw_D_st hD (aw_s2 aw_vok_int)))
theorem r_ishr {x y : Int32} (hdg : decode (aw_c F) pc = .ok (.ishr, 1))  (k : AW G F kc ks w (pc + 1) loc (.int (x >>> (y &&& 31)) :: st) Q) : AW G F kc ks w pc loc (.int y :: .int x :: st) Q := by
  intro p e s m args below meth c adE nE hS H locs ls ad cells slots hD
  obtain ⟨hx, hb, hml, hr, hlk, hown, htab, hini, hO, hG⟩ := id hS
  exact lv_ishr hx hb hdg (k p e s m args below meth c adE nE hS H locs ls ad cells slots (aw_D_st hD (aw_s2 aw_vok_int)))
theorem r_i2l {x : Int32} (hdg : decode (aw_c F) pc = .ok (.i2l, 1))  (k : AW G F kc ks w (pc + 1) loc (.long x.toInt64 :: st) Q) : AW G F kc ks w pc loc (.int x :: st) Q := by
  intro p e s m args below meth c adE nE hS H locs ls ad cells slots hD
  obtain ⟨hx, hb, hml, hr, hlk, hown, htab, hini, hO, hG⟩ := id hS
  exact lv_i2l hx hb hdg rfl (k p e s m args below meth c adE nE hS H locs ls ad cells slots (aw_D_st hD (aw_s1 aw_vok_long)))
theorem r_i2c {x v : Int32} (hdg : decode (aw_c F) pc = .ok (.i2c, 1)) (hv : (x.toUInt32 % 65536).toInt32 = v) (k : AW G F kc ks w (pc + 1) loc (.int v :: st) Q) : AW G F kc ks w pc loc (.int x :: st) Q := by
  intro p e s m args below meth c adE nE hS H locs ls ad cells slots hD
  obtain ⟨hx, hb, hml, hr, hlk, hown, htab, hini, hO, hG⟩ := id hS
  exact lv_i2c hx hb hdg hv (k p e s m args below meth c adE nE hS H locs ls ad cells slots (aw_D_st hD (aw_s1 aw_vok_int)))
theorem r_lcmp {x y : Int64} (hdg : decode (aw_c F) pc = .ok (.lcmp, 1))  (k : AW G F kc ks w (pc + 1) loc (.int (lg_cmp x y) :: st) Q) : AW G F kc ks w pc loc (.long y :: .long x :: st) Q := by
  intro p e s m args below meth c adE nE hS H locs ls ad cells slots hD
  obtain ⟨hx, hb, hml, hr, hlk, hown, htab, hini, hO, hG⟩ := id hS
  exact W.lcmp hx hb hdg (k p e s m args below meth c adE nE hS H locs ls ad cells slots (aw_D_st hD (aw_s2 aw_vok_int)))
theorem r_iconst {n : Int} {v : Int32} (hdg : decode (aw_c F) pc = .ok (.iconst n, 1)) (hv : Int32.ofInt n = v) (k : AW G F kc ks w (pc + 1) loc (.int v :: st) Q) : AW G F kc ks w pc loc st Q := by
  intro p e s m args below meth c adE nE hS H locs ls ad cells slots hD
  obtain ⟨hx, hb, hml, hr, hlk, hown, htab, hini, hO, hG⟩ := id hS
  exact lv_iconst hx hb hdg hv (k p e s m args below meth c adE nE hS H locs ls ad cells slots (aw_D_st hD (aw_s0 aw_vok_int)))
theorem r_lconst {n : Fin 2} {v : Int64} (hdg : decode (aw_c F) pc = .ok (.lconst n, 1)) (hv : Int64.ofNat n = v) (k : AW G F kc ks w (pc + 1) loc (.long v :: st) Q) : AW G F kc ks w pc loc st Q := by
  intro p e s m args below meth c adE nE hS H locs ls ad cells slots hD
  obtain ⟨hx, hb, hml, hr, hlk, hown, htab, hini, hO, hG⟩ := id hS
  exact lv_lconst hx hb hdg hv (k p e s m args below meth c adE nE hS H locs ls ad cells slots (aw_D_st hD (aw_s0 aw_vok_long)))
theorem r_bipush {n : Int} {v : Int32} (hdg : decode (aw_c F) pc = .ok (.bipush n, 2)) (hv : (Int8.ofInt n).toInt32 = v) (k : AW G F kc ks w (pc + 2) loc (.int v :: st) Q) : AW G F kc ks w pc loc st Q := by
  intro p e s m args below meth c adE nE hS H locs ls ad cells slots hD
  obtain ⟨hx, hb, hml, hr, hlk, hown, htab, hini, hO, hG⟩ := id hS
  exact lv_bipush hx hb hdg hv (k p e s m args below meth c adE nE hS H locs ls ad cells slots (aw_D_st hD (aw_s0 aw_vok_int)))
theorem r_sipush {n : Int} {v : Int32} (hdg : decode (aw_c F) pc = .ok (.sipush n, 3)) (hv : (Int16.ofInt n).toInt32 = v) (k : AW G F kc ks w (pc + 3) loc (.int v :: st) Q) : AW G F kc ks w pc loc st Q := by
  intro p e s m args below meth c adE nE hS H locs ls ad cells slots hD
  obtain ⟨hx, hb, hml, hr, hlk, hown, htab, hini, hO, hG⟩ := id hS
  exact lv_sipush hx hb hdg hv (k p e s m args below meth c adE nE hS H locs ls ad cells slots (aw_D_st hD (aw_s0 aw_vok_int)))
theorem r_null  (hdg : decode (aw_c F) pc = .ok (.aconst_null, 1))  (k : AW G F kc ks w (pc + 1) loc (.null :: st) Q) : AW G F kc ks w pc loc st Q := by
  intro p e s m args below meth c adE nE hS H locs ls ad cells slots hD
  obtain ⟨hx, hb, hml, hr, hlk, hown, htab, hini, hO, hG⟩ := id hS
  exact lv_null hx hb hdg (k p e s m args below meth c adE nE hS H locs ls ad cells slots (aw_D_st hD (aw_s0 aw_vok_null)))
theorem r_dup {v : Value} (hdg : decode (aw_c F) pc = .ok (.dup, 1)) (hv : v.category = 1) (k : AW G F kc ks w (pc + 1) loc (v :: v :: st) Q) : AW G F kc ks w pc loc (v :: st) Q := by
  intro p e s m args below meth c adE nE hS H locs ls ad cells slots hD
  obtain ⟨hx, hb, hml, hr, hlk, hown, htab, hini, hO, hG⟩ := id hS
  exact lv_dup hx hb hdg ((aw_v_cat ad v).trans hv) (k p e s m args below meth c adE nE hS H locs ls ad cells slots (aw_D_st hD (fun h => aw_s0 (h v List.mem_cons_self) h)))
theorem r_dup2 {u v : Value} (hdg : decode (aw_c F) pc = .ok (.dup2, 1)) (hu : u.category = 1) (hv : v.category = 1) (k : AW G F kc ks w (pc + 1) loc (v :: u :: v :: u :: st) Q) : AW G F kc ks w pc loc (v :: u :: st) Q := by
  intro p e s m args below meth c adE nE hS H locs ls ad cells slots hD
  obtain ⟨hx, hb, hml, hr, hlk, hown, htab, hini, hO, hG⟩ := id hS
  exact lv_dup2_11 hx hb hdg ((aw_v_cat ad v).trans hv) ((aw_v_cat ad u).trans hu) (k p e s m args below meth c adE nE hS H locs ls ad cells slots (aw_D_st hD (fun h => aw_s0 (h v List.mem_cons_self) (aw_s0 (h u (List.mem_cons_of_mem _ List.mem_cons_self)) h))))
theorem r_pop {v : Value} (hdg : decode (aw_c F) pc = .ok (.pop, 1)) (hv : v.category = 1) (k : AW G F kc ks w (pc + 1) loc st Q) : AW G F kc ks w pc loc (v :: st) Q := by
  intro p e s m args below meth c adE nE hS H locs ls ad cells slots hD
  obtain ⟨hx, hb, hml, hr, hlk, hown, htab, hini, hO, hG⟩ := id hS
  exact lv_pop hx hb hdg ((aw_v_cat ad v).trans hv) (k p e s m args below meth c adE nE hS H locs ls ad cells slots (aw_D_st hD aw_d1))
theorem r_iload_n {j : Fin 4} {i : Nat} {x : Int32} (hdg : decode (aw_c F) pc = .ok (.iload_n j, 1)) (hi : (j : Nat) = i) (hl : loc[i]? = some (some (.int x))) (k : AW G F kc ks w (pc + 1) loc (.int x :: st) Q) : AW G F kc ks w pc loc st Q := by
  intro p e s m args below meth c adE nE hS H locs ls ad cells slots hD
  obtain ⟨hx, hb, hml, hr, hlk, hown, htab, hini, hO, hG⟩ := id hS
  exact lv_iload_n hx hb hdg hi (aw_l_at hD.2.2.2.2.1 hl) (k p e s m args below meth c adE nE hS H locs ls ad cells slots (aw_D_st hD (aw_s0 aw_vok_int)))
theorem r_iload {i : Nat} {x : Int32} (hdg : decode (aw_c F) pc = .ok (.iload i, 2)) (hl : loc[i]? = some (some (.int x))) (k : AW G F kc ks w (pc + 2) loc (.int x :: st) Q) : AW G F kc ks w pc loc st Q := by
  intro p e s m args below meth c adE nE hS H locs ls ad cells slots hD
  obtain ⟨hx, hb, hml, hr, hlk, hown, htab, hini, hO, hG⟩ := id hS
  exact lv_iload hx hb hdg (aw_l_at hD.2.2.2.2.1 hl) (k p e s m args below meth c adE nE hS H locs ls ad cells slots (aw_D_st hD (aw_s0 aw_vok_int)))
theorem r_aload_n {j : Fin 4} {i a : Nat} (hdg : decode (aw_c F) pc = .ok (.aload_n j, 1)) (hi : (j : Nat) = i) (hl : loc[i]? = some (some (.ref a))) (k : AW G F kc ks w (pc + 1) loc (.ref a :: st) Q) : AW G F kc ks w pc loc st Q := by
  intro p e s m args below meth c adE nE hS H locs ls ad cells slots hD
  obtain ⟨hx, hb, hml, hr, hlk, hown, htab, hini, hO, hG⟩ := id hS
  exact lv_aload_n hx hb hdg hi (aw_l_at hD.2.2.2.2.1 hl) (k p e s m args below meth c adE nE hS H locs ls ad cells slots (aw_D_st hD (aw_s0 (hD.2.2.2.2.2.1 i _ hl).1)))
theorem r_aload {i a : Nat} (hdg : decode (aw_c F) pc = .ok (.aload i, 2)) (hl : loc[i]? = some (some (.ref a))) (k : AW G F kc ks w (pc + 2) loc (.ref a :: st) Q) : AW G F kc ks w pc loc st Q := by
  intro p e s m args below meth c adE nE hS H locs ls ad cells slots hD
  obtain ⟨hx, hb, hml, hr, hlk, hown, htab, hini, hO, hG⟩ := id hS
  exact lv_aload hx hb hdg (aw_l_at hD.2.2.2.2.1 hl) (k p e s m args below meth c adE nE hS H locs ls ad cells slots (aw_D_st hD (aw_s0 (hD.2.2.2.2.2.1 i _ hl).1)))
theorem r_aload_nN {j : Fin 4} {i : Nat} (hdg : decode (aw_c F) pc = .ok (.aload_n j, 1)) (hi : (j : Nat) = i) (hl : loc[i]? = some (some .null)) (k : AW G F kc ks w (pc + 1) loc (.null :: st) Q) : AW G F kc ks w pc loc st Q := by
  intro p e s m args below meth c adE nE hS H locs ls ad cells slots hD
  obtain ⟨hx, hb, hml, hr, hlk, hown, htab, hini, hO, hG⟩ := id hS
  exact lv_aload_nN hx hb hdg hi (aw_l_at hD.2.2.2.2.1 hl) (k p e s m args below meth c adE nE hS H locs ls ad cells slots (aw_D_st hD (aw_s0 aw_vok_null)))
theorem r_aloadN {i : Nat} (hdg : decode (aw_c F) pc = .ok (.aload i, 2)) (hl : loc[i]? = some (some .null)) (k : AW G F kc ks w (pc + 2) loc (.null :: st) Q) : AW G F kc ks w pc loc st Q := by
  intro p e s m args below meth c adE nE hS H locs ls ad cells slots hD
  obtain ⟨hx, hb, hml, hr, hlk, hown, htab, hini, hO, hG⟩ := id hS
  exact lv_aloadN hx hb hdg (aw_l_at hD.2.2.2.2.1 hl) (k p e s m args below meth c adE nE hS H locs ls ad cells slots (aw_D_st hD (aw_s0 aw_vok_null)))
theorem r_istore_n {j : Fin 4} {x : Int32} {i : Nat} {loc' : List (Option Value)} (hdg : decode (aw_c F) pc = .ok (.istore_n j, 1)) (hi : (j : Nat) = i) (hn : i < aw_nL F) (hl : loc.set i (some (.int x)) = loc') (k : AW G F kc ks w (pc + 1) loc' st Q) : AW G F kc ks w pc loc (.int x :: st) Q := by
  intro p e s m args below meth c adE nE hS H locs ls ad cells slots hD
  obtain ⟨hx, hb, hml, hr, hlk, hown, htab, hini, hO, hG⟩ := id hS
  exact lv_istore_n hx hb hdg hi hD.2.2.2.2.1 hn rfl (fun ls' hl' => k p e s m args below meth c adE nE hS H locs ls' ad cells slots (aw_D_ls hD aw_d1 (aw_l_store hD.2.2.2.2.2.1 hl' hl) (aw_lok_store hD.2.2.2.2.2.1 aw_vok_int rfl hl)))
theorem r_istore {x : Int32} {i : Nat} {loc' : List (Option Value)} (hdg : decode (aw_c F) pc = .ok (.istore i, 2))  (hn : i < aw_nL F) (hl : loc.set i (some (.int x)) = loc') (k : AW G F kc ks w (pc + 2) loc' st Q) : AW G F kc ks w pc loc (.int x :: st) Q := by
  intro p e s m args below meth c adE nE hS H locs ls ad cells slots hD
  obtain ⟨hx, hb, hml, hr, hlk, hown, htab, hini, hO, hG⟩ := id hS
  exact lv_istore hx hb hdg hD.2.2.2.2.1 hn rfl (fun ls' hl' => k p e s m args below meth c adE nE hS H locs ls' ad cells slots (aw_D_ls hD aw_d1 (aw_l_store hD.2.2.2.2.2.1 hl' hl) (aw_lok_store hD.2.2.2.2.2.1 aw_vok_int rfl hl)))
theorem r_astore_n {j : Fin 4} {a : Nat} {i : Nat} {loc' : List (Option Value)} (hdg : decode (aw_c F) pc = .ok (.astore_n j, 1)) (hi : (j : Nat) = i) (hn : i < aw_nL F) (hl : loc.set i (some (.ref a)) = loc') (k : AW G F kc ks w (pc + 1) loc' st Q) : AW G F kc ks w pc loc (.ref a :: st) Q := by
  intro p e s m args below meth c adE nE hS H locs ls ad cells slots hD
  obtain ⟨hx, hb, hml, hr, hlk, hown, htab, hini, hO, hG⟩ := id hS
  exact lv_astore_n hx hb hdg hi hD.2.2.2.2.1 hn rfl (fun ls' hl' => k p e s m args below meth c adE nE hS H locs ls' ad cells slots (aw_D_ls hD aw_d1 (aw_l_store hD.2.2.2.2.2.1 hl' hl) (aw_lok_store hD.2.2.2.2.2.1 (hD.2.2.2.2.2.2.1 _ List.mem_cons_self) rfl hl)))
theorem r_astore {a : Nat} {i : Nat} {loc' : List (Option Value)} (hdg : decode (aw_c F) pc = .ok (.astore i, 2))  (hn : i < aw_nL F) (hl : loc.set i (some (.ref a)) = loc') (k : AW G F kc ks w (pc + 2) loc' st Q) : AW G F kc ks w pc loc (.ref a :: st) Q := by
  intro p e s m args below meth c adE nE hS H locs ls ad cells slots hD
  obtain ⟨hx, hb, hml, hr, hlk, hown, htab, hini, hO, hG⟩ := id hS
  exact lv_astore hx hb hdg hD.2.2.2.2.1 hn rfl (fun ls' hl' => k p e s m args below meth c adE nE hS H locs ls' ad cells slots (aw_D_ls hD aw_d1 (aw_l_store hD.2.2.2.2.2.1 hl' hl) (aw_lok_store hD.2.2.2.2.2.1 (hD.2.2.2.2.2.2.1 _ List.mem_cons_self) rfl hl)))
theorem r_astore_nN {j : Fin 4} {i : Nat} {loc' : List (Option Value)} (hdg : decode (aw_c F) pc = .ok (.astore_n j, 1)) (hi : (j : Nat) = i) (hn : i < aw_nL F) (hl : loc.set i (some (.null)) = loc') (k : AW G F kc ks w (pc + 1) loc' st Q) : AW G F kc ks w pc loc (.null :: st) Q := by
  intro p e s m args below meth c adE nE hS H locs ls ad cells slots hD
  obtain ⟨hx, hb, hml, hr, hlk, hown, htab, hini, hO, hG⟩ := id hS
  exact lv_astore_nN hx hb hdg hi hD.2.2.2.2.1 hn rfl (fun ls' hl' => k p e s m args below meth c adE nE hS H locs ls' ad cells slots (aw_D_ls hD aw_d1 (aw_l_store hD.2.2.2.2.2.1 hl' hl) (aw_lok_store hD.2.2.2.2.2.1 aw_vok_null rfl hl)))
theorem r_astoreN  {i : Nat} {loc' : List (Option Value)} (hdg : decode (aw_c F) pc = .ok (.astore i, 2))  (hn : i < aw_nL F) (hl : loc.set i (some (.null)) = loc') (k : AW G F kc ks w (pc + 2) loc' st Q) : AW G F kc ks w pc loc (.null :: st) Q := by
  intro p e s m args below meth c adE nE hS H locs ls ad cells slots hD
  obtain ⟨hx, hb, hml, hr, hlk, hown, htab, hini, hO, hG⟩ := id hS
  exact lv_astoreN hx hb hdg hD.2.2.2.2.1 hn rfl (fun ls' hl' => k p e s m args below meth c adE nE hS H locs ls' ad cells slots (aw_D_ls hD aw_d1 (aw_l_store hD.2.2.2.2.2.1 hl' hl) (aw_lok_store hD.2.2.2.2.2.1 aw_vok_null rfl hl)))
theorem r_iinc {i : Nat} {n : Int} {x v : Int32} {loc' : List (Option Value)} (hdg : decode (aw_c F) pc = .ok (.iinc i n, 3)) (hk : loc[i]? = some (some (.int x))) (hv : x + Int32.ofInt n = v) (hn : i < aw_nL F) (hl : loc.set i (some (.int v)) = loc') (k : AW G F kc ks w (pc + 3) loc' st Q) : AW G F kc ks w pc loc st Q := by
  intro p e s m args below meth c adE nE hS H locs ls ad cells slots hD
  obtain ⟨hx, hb, hml, hr, hlk, hown, htab, hini, hO, hG⟩ := id hS
  obtain ⟨i9, h9⟩ := List.getElem?_of_mem (aw_l_mem.mpr ⟨_, hk, rfl⟩ : (i, Value.int x) ∈ aw_l ad loc)
  exact lv_iinc hx hb hdg hD.2.2.2.2.1 h9 hv hn rfl (fun ls' hl' => k p e s m args below meth c adE nE hS H locs ls' ad cells slots (aw_D_ls hD id (aw_l_store (v := .int v) hD.2.2.2.2.2.1 hl' hl) (aw_lok_store hD.2.2.2.2.2.1 aw_vok_int rfl hl)))
theorem r_if_eq {x : Int32} {off : Int} {tgt : Nat} (hdg : decode (aw_c F) pc = .ok (.ifCond .eq off, 3)) (ht : (pc : Int) + off = (tgt : Int)) (kt : x = 0 → AW G F kc ks w tgt loc st Q) (kf : ¬ x = 0 → AW G F kc ks w (pc + 3) loc st Q) : AW G F kc ks w pc loc (.int x :: st) Q := by
  intro p e s m args below meth c adE nE hS H locs ls ad cells slots hD
  obtain ⟨hx, hb, hml, hr, hlk, hown, htab, hini, hO, hG⟩ := id hS
  exact lv_if_eq hx hb hdg ht (fun h => kt h p e s m args below meth c adE nE hS H locs ls ad cells slots (aw_D_st hD aw_d1)) (fun h => kf h p e s m args below meth c adE nE hS H locs ls ad cells slots (aw_D_st hD aw_d1))
theorem r_icmp_eq {x y : Int32} {off : Int} {tgt : Nat} (hdg : decode (aw_c F) pc = .ok (.if_icmp .eq off, 3)) (ht : (pc : Int) + off = (tgt : Int)) (kt : x = y → AW G F kc ks w tgt loc st Q) (kf : ¬ x = y → AW G F kc ks w (pc + 3) loc st Q) : AW G F kc ks w pc loc (.int y :: .int x :: st) Q := by
  intro p e s m args below meth c adE nE hS H locs ls ad cells slots hD
  obtain ⟨hx, hb, hml, hr, hlk, hown, htab, hini, hO, hG⟩ := id hS
  exact lv_icmp_eq hx hb hdg ht (fun h => kt h p e s m args below meth c adE nE hS H locs ls ad cells slots (aw_D_st hD aw_d2)) (fun h => kf h p e s m args below meth c adE nE hS H locs ls ad cells slots (aw_D_st hD aw_d2))
theorem r_if_ne {x : Int32} {off : Int} {tgt : Nat} (hdg : decode (aw_c F) pc = .ok (.ifCond .ne off, 3)) (ht : (pc : Int) + off = (tgt : Int)) (kt : ¬ x = 0 → AW G F kc ks w tgt loc st Q) (kf : x = 0 → AW G F kc ks w (pc + 3) loc st Q) : AW G F kc ks w pc loc (.int x :: st) Q := by
  intro p e s m args below meth c adE nE hS H locs ls ad cells slots hD
  obtain ⟨hx, hb, hml, hr, hlk, hown, htab, hini, hO, hG⟩ := id hS
  exact lv_if_ne hx hb hdg ht (fun h => kt h p e s m args below meth c adE nE hS H locs ls ad cells slots (aw_D_st hD aw_d1)) (fun h => kf h p e s m args below meth c adE nE hS H locs ls ad cells slots (aw_D_st hD aw_d1))
theorem r_icmp_ne {x y : Int32} {off : Int} {tgt : Nat} (hdg : decode (aw_c F) pc = .ok (.if_icmp .ne off, 3)) (ht : (pc : Int) + off = (tgt : Int)) (kt : ¬ x = y → AW G F kc ks w tgt loc st Q) (kf : x = y → AW G F kc ks w (pc + 3) loc st Q) : AW G F kc ks w pc loc (.int y :: .int x :: st) Q := by
  intro p e s m args below meth c adE nE hS H locs ls ad cells slots hD
  obtain ⟨hx, hb, hml, hr, hlk, hown, htab, hini, hO, hG⟩ := id hS
  exact lv_icmp_ne hx hb hdg ht (fun h => kt h p e s m args below meth c adE nE hS H locs ls ad cells slots (aw_D_st hD aw_d2)) (fun h => kf h p e s m args below meth c adE nE hS H locs ls ad cells slots (aw_D_st hD aw_d2))
theorem r_if_lt {x : Int32} {off : Int} {tgt : Nat} (hdg : decode (aw_c F) pc = .ok (.ifCond .lt off, 3)) (ht : (pc : Int) + off = (tgt : Int)) (kt : x < 0 → AW G F kc ks w tgt loc st Q) (kf : ¬ x < 0 → AW G F kc ks w (pc + 3) loc st Q) : AW G F kc ks w pc loc (.int x :: st) Q := by
  intro p e s m args below meth c adE nE hS H locs ls ad cells slots hD
  obtain ⟨hx, hb, hml, hr, hlk, hown, htab, hini, hO, hG⟩ := id hS
  exact lv_if_lt hx hb hdg ht (fun h => kt h p e s m args below meth c adE nE hS H locs ls ad cells slots (aw_D_st hD aw_d1)) (fun h => kf h p e s m args below meth c adE nE hS H locs ls ad cells slots (aw_D_st hD aw_d1))
theorem r_icmp_lt {x y : Int32} {off : Int} {tgt : Nat} (hdg : decode (aw_c F) pc = .ok (.if_icmp .lt off, 3)) (ht : (pc : Int) + off = (tgt : Int)) (kt : x < y → AW G F kc ks w tgt loc st Q) (kf : ¬ x < y → AW G F kc ks w (pc + 3) loc st Q) : AW G F kc ks w pc loc (.int y :: .int x :: st) Q := by
  intro p e s m args below meth c adE nE hS H locs ls ad cells slots hD
  obtain ⟨hx, hb, hml, hr, hlk, hown, htab, hini, hO, hG⟩ := id hS
  exact lv_icmp_lt hx hb hdg ht (fun h => kt h p e s m args below meth c adE nE hS H locs ls ad cells slots (aw_D_st hD aw_d2)) (fun h => kf h p e s m args below meth c adE nE hS H locs ls ad cells slots (aw_D_st hD aw_d2))
theorem r_if_ge {x : Int32} {off : Int} {tgt : Nat} (hdg : decode (aw_c F) pc = .ok (.ifCond .ge off, 3)) (ht : (pc : Int) + off = (tgt : Int)) (kt : 0 ≤ x → AW G F kc ks w tgt loc st Q) (kf : ¬ 0 ≤ x → AW G F kc ks w (pc + 3) loc st Q) : AW G F kc ks w pc loc (.int x :: st) Q := by
  intro p e s m args below meth c adE nE hS H locs ls ad cells slots hD
  obtain ⟨hx, hb, hml, hr, hlk, hown, htab, hini, hO, hG⟩ := id hS
  exact lv_if_ge hx hb hdg ht (fun h => kt h p e s m args below meth c adE nE hS H locs ls ad cells slots (aw_D_st hD aw_d1)) (fun h => kf h p e s m args below meth c adE nE hS H locs ls ad cells slots (aw_D_st hD aw_d1))
theorem r_icmp_ge {x y : Int32} {off : Int} {tgt : Nat} (hdg : decode (aw_c F) pc = .ok (.if_icmp .ge off, 3)) (ht : (pc : Int) + off = (tgt : Int)) (kt : y ≤ x → AW G F kc ks w tgt loc st Q) (kf : ¬ y ≤ x → AW G F kc ks w (pc + 3) loc st Q) : AW G F kc ks w pc loc (.int y :: .int x :: st) Q := by
  intro p e s m args below meth c adE nE hS H locs ls ad cells slots hD
  obtain ⟨hx, hb, hml, hr, hlk, hown, htab, hini, hO, hG⟩ := id hS
  exact lv_icmp_ge hx hb hdg ht (fun h => kt h p e s m args below meth c adE nE hS H locs ls ad cells slots (aw_D_st hD aw_d2)) (fun h => kf h p e s m args below meth c adE nE hS H locs ls ad cells slots (aw_D_st hD aw_d2))
theorem r_if_gt {x : Int32} {off : Int} {tgt : Nat} (hdg : decode (aw_c F) pc = .ok (.ifCond .gt off, 3)) (ht : (pc : Int) + off = (tgt : Int)) (kt : 0 < x → AW G F kc ks w tgt loc st Q) (kf : ¬ 0 < x → AW G F kc ks w (pc + 3) loc st Q) : AW G F kc ks w pc loc (.int x :: st) Q := by
  intro p e s m args below meth c adE nE hS H locs ls ad cells slots hD
  obtain ⟨hx, hb, hml, hr, hlk, hown, htab, hini, hO, hG⟩ := id hS
  exact lv_if_gt hx hb hdg ht (fun h => kt h p e s m args below meth c adE nE hS H locs ls ad cells slots (aw_D_st hD aw_d1)) (fun h => kf h p e s m args below meth c adE nE hS H locs ls ad cells slots (aw_D_st hD aw_d1))
theorem r_icmp_gt {x y : Int32} {off : Int} {tgt : Nat} (hdg : decode (aw_c F) pc = .ok (.if_icmp .gt off, 3)) (ht : (pc : Int) + off = (tgt : Int)) (kt : y < x → AW G F kc ks w tgt loc st Q) (kf : ¬ y < x → AW G F kc ks w (pc + 3) loc st Q) : AW G F kc ks w pc loc (.int y :: .int x :: st) Q := by
  intro p e s m args below meth c adE nE hS H locs ls ad cells slots hD
  obtain ⟨hx, hb, hml, hr, hlk, hown, htab, hini, hO, hG⟩ := id hS
  exact lv_icmp_gt hx hb hdg ht (fun h => kt h p e s m args below meth c adE nE hS H locs ls ad cells slots (aw_D_st hD aw_d2)) (fun h => kf h p e s m args below meth c adE nE hS H locs ls ad cells slots (aw_D_st hD aw_d2))
theorem r_if_le {x : Int32} {off : Int} {tgt : Nat} (hdg : decode (aw_c F) pc = .ok (.ifCond .le off, 3)) (ht : (pc : Int) + off = (tgt : Int)) (kt : x ≤ 0 → AW G F kc ks w tgt loc st Q) (kf : ¬ x ≤ 0 → AW G F kc ks w (pc + 3) loc st Q) : AW G F kc ks w pc loc (.int x :: st) Q := by
  intro p e s m args below meth c adE nE hS H locs ls ad cells slots hD
  obtain ⟨hx, hb, hml, hr, hlk, hown, htab, hini, hO, hG⟩ := id hS
  exact lv_if_le hx hb hdg ht (fun h => kt h p e s m args below meth c adE nE hS H locs ls ad cells slots (aw_D_st hD aw_d1)) (fun h => kf h p e s m args below meth c adE nE hS H locs ls ad cells slots (aw_D_st hD aw_d1))
theorem r_icmp_le {x y : Int32} {off : Int} {tgt : Nat} (hdg : decode (aw_c F) pc = .ok (.if_icmp .le off, 3)) (ht : (pc : Int) + off = (tgt : Int)) (kt : x ≤ y → AW G F kc ks w tgt loc st Q) (kf : ¬ x ≤ y → AW G F kc ks w (pc + 3) loc st Q) : AW G F kc ks w pc loc (.int y :: .int x :: st) Q := by
  intro p e s m args below meth c adE nE hS H locs ls ad cells slots hD
  obtain ⟨hx, hb, hml, hr, hlk, hown, htab, hini, hO, hG⟩ := id hS
  exact lv_icmp_le hx hb hdg ht (fun h => kt h p e s m args below meth c adE nE hS H locs ls ad cells slots (aw_D_st hD aw_d2)) (fun h => kf h p e s m args below meth c adE nE hS H locs ls ad cells slots (aw_D_st hD aw_d2))
theorem r_goto {off : Int} {tgt : Nat} (hdg : decode (aw_c F) pc = .ok (.goto off, 3)) (ht : (pc : Int) + off = (tgt : Int)) (k : AW G F kc ks w tgt loc st Q) : AW G F kc ks w pc loc st Q := by
  intro p e s m args below meth c adE nE hS H locs ls ad cells slots hD
  obtain ⟨hx, hb, hml, hr, hlk, hown, htab, hini, hO, hG⟩ := id hS
  exact lv_goto hx hb hdg ht (k p e s m args below meth c adE nE hS H locs ls ad cells slots hD)
theorem r_ifnull {a : Nat} {off : Int} (hdg : decode (aw_c F) pc = .ok (.ifnull off, 3)) (k : AW G F kc ks w (pc + 3) loc st Q) : AW G F kc ks w pc loc (.ref a :: st) Q := by
  intro p e s m args below meth c adE nE hS H locs ls ad cells slots hD
  obtain ⟨hx, hb, hml, hr, hlk, hown, htab, hini, hO, hG⟩ := id hS
  exact lv_ifnull hx hb hdg (k p e s m args below meth c adE nE hS H locs ls ad cells slots (aw_D_st hD aw_d1))
theorem r_ifnullN {off : Int} {tgt : Nat} (hdg : decode (aw_c F) pc = .ok (.ifnull off, 3)) (ht : (pc : Int) + off = (tgt : Int)) (k : AW G F kc ks w tgt loc st Q) : AW G F kc ks w pc loc (.null :: st) Q := by
  intro p e s m args below meth c adE nE hS H locs ls ad cells slots hD
  obtain ⟨hx, hb, hml, hr, hlk, hown, htab, hini, hO, hG⟩ := id hS
  exact lv_ifnullN hx hb hdg ht (k p e s m args below meth c adE nE hS H locs ls ad cells slots (aw_D_st hD aw_d1))
theorem r_ifnonnull {a : Nat} {off : Int} {tgt : Nat} (hdg : decode (aw_c F) pc = .ok (.ifnonnull off, 3)) (ht : (pc : Int) + off = (tgt : Int)) (k : AW G F kc ks w tgt loc st Q) : AW G F kc ks w pc loc (.ref a :: st) Q := by
  intro p e s m args below meth c adE nE hS H locs ls ad cells slots hD
  obtain ⟨hx, hb, hml, hr, hlk, hown, htab, hini, hO, hG⟩ := id hS
  exact lv_ifnonnull hx hb hdg ht (k p e s m args below meth c adE nE hS H locs ls ad cells slots (aw_D_st hD aw_d1))
theorem r_ifnonnullN {off : Int} (hdg : decode (aw_c F) pc = .ok (.ifnonnull off, 3)) (k : AW G F kc ks w (pc + 3) loc st Q) : AW G F kc ks w pc loc (.null :: st) Q := by
  intro p e s m args below meth c adE nE hS H locs ls ad cells slots hD
  obtain ⟨hx, hb, hml, hr, hlk, hown, htab, hini, hO, hG⟩ := id hS
  exact lv_ifnonnullN hx hb hdg (k p e s m args below meth c adE nE hS H locs ls ad cells slots (aw_D_st hD aw_d1))
theorem r_lookup {dflt : Int} {ps : Array (Int × Int)} {len : Nat} {x : Int32} {off : Int} {tgt : Nat} (hdg : decode (aw_c F) pc = .ok (.lookupswitch dflt ps, len)) (hp : (ps.toList.zip (ps.toList.drop 1)).all (fun (a, next) => a.1 < next.1) = true) (ho : Op.lookupswitch.offset ps.toList dflt x.toInt = off) (ht : (pc : Int) + off = (tgt : Int)) (k : AW G F kc ks w tgt loc st Q) : AW G F kc ks w pc loc (.int x :: st) Q := by
  intro p e s m args below meth c adE nE hS H locs ls ad cells slots hD
  obtain ⟨hx, hb, hml, hr, hlk, hown, htab, hini, hO, hG⟩ := id hS
  exact lv_lookup hx hb hdg hp ho ht (k p e s m args below meth c adE nE hS H locs ls ad cells slots (aw_D_st hD aw_d1))
theorem r_tableIn {dflt lo hi : Int} {offs : Array Int} {len : Nat} {x : Int32} {off : Int} {tgt : Nat} (hdg : decode (aw_c F) pc = .ok (.tableswitch dflt lo hi offs, len)) (h1 : ¬ x.toInt < lo) (h2 : ¬ hi < x.toInt) (ho : offs[(x.toInt - lo).toNat]? = some off) (ht : (pc : Int) + off = (tgt : Int)) (k : AW G F kc ks w tgt loc st Q) : AW G F kc ks w pc loc (.int x :: st) Q := by
  intro p e s m args below meth c adE nE hS H locs ls ad cells slots hD
  obtain ⟨hx, hb, hml, hr, hlk, hown, htab, hini, hO, hG⟩ := id hS
  exact lv_tableIn hx hb hdg h1 h2 ho ht (k p e s m args below meth c adE nE hS H locs ls ad cells slots (aw_D_st hD aw_d1))
theorem r_tableOut {dflt lo hi : Int} {offs : Array Int} {len : Nat} {x : Int32} {tgt : Nat} (hdg : decode (aw_c F) pc = .ok (.tableswitch dflt lo hi offs, len)) (h : x.toInt < lo ∨ hi < x.toInt) (ht : (pc : Int) + dflt = (tgt : Int)) (k : AW G F kc ks w tgt loc st Q) : AW G F kc ks w pc loc (.int x :: st) Q := by
  intro p e s m args below meth c adE nE hS H locs ls ad cells slots hD
  obtain ⟨hx, hb, hml, hr, hlk, hown, htab, hini, hO, hG⟩ := id hS
  exact lv_tableOut hx hb hdg h ht (k p e s m args below meth c adE nE hS H locs ls ad cells slots (aw_D_st hD aw_d1))
end AWr
end
section
/-! ===== AW: the rows of fields, arrays and new cells ===== -/
theorem aw_v_rf (ad : Nat → Nat) (r : Option Nat) : aw_v ad (va_rf r) = va_rf (r.map ad) := by cases r <;> rfl
theorem aw_up_map (ad : Nat → Nat) (f : Nat → Option Nat) (i : Nat) (r : Option Nat) : (fun j => (va_up f i r j).map ad) = va_up (fun j => (f j).map ad) i (r.map ad) := by
  funext j
  unfold va_up
  by_cases h : j = i
  · rw [if_pos h, if_pos h]
  · rw [if_neg h, if_neg h]
theorem aw_set_obj {G : aw_G} {ad : Nat → Nat} {w : List va_E} {a ci k : Nat} {fs : List Value} {v : Value} : (aw_w G.2.2.2.2.2 ad w).set a (ad a, Sum.inr (ci, (fs.map (aw_v ad)).set k (aw_v ad v))) = aw_w G.2.2.2.2.2 ad (w.set a (.inr (ci, fs.set k v))) := by
  rw [← aw_w_set]
  show _ = (aw_w G.2.2.2.2.2 ad w).set a (ad a, Sum.inr (ci, (fs.set k v).map (aw_v ad)))
  rw [List.map_set]
theorem aw_ty_eq {s : State} {D : va_G} {cl : List vw_C} {cA : Nat → ClassId} {c1 : ClassId} {ty : FieldType} (t : Nat) (ht : (aw_tys cA)[t]? = some (cA t, ty)) (hK : va_K D cl (aw_tys cA) s) (hK1 : va_K D cl (aw_tys cA ++ [(c1, ty)]) s) : c1 = cA t := by
  have h1 := (hK.2 t _ ht).2
  have h2 : va_RA s c1 ty := (hK1.2 (aw_tys cA).length (c1, ty) (by rw [List.getElem?_append_right (Nat.le_refl _), Nat.sub_self]; rfl)).2
  cases ty with
  | object C =>
    obtain ⟨k1, q1, a1, a2, a3, a4⟩ := h1
    obtain ⟨k2, q2, b1, b2, b3, b4⟩ := h2
    exact Option.some.inj (b4.symm.trans a4)
  | _ => exact Option.some.inj (Eq.trans (Eq.symm h2) h1)
section AWh
variable {G : aw_G} {F : aw_F} {s : State} {adE : Nat → Nat} {nE : Nat} {w : List va_E} {loc : List (Option Value)} {st : List Value} {kc ks : Nat} {H H' : Heap} {locs : List Loc} {ls : Array Slot} {ad : Nat → Nat} {cells slots : Nat}
/-- a new cell, the next of the world -/
theorem aw_D_push {e : va_E} {q kc' ks' N : Nat} (h : aw_D G F s adE nE w loc st kc ks H locs ls ad cells slots) (he : aw_eok w.length e) (hkc : kc' + 1 ≤ kc) (hks : ks' + N ≤ ks)
    (h1 : va_P (G.2.2.2.1, G.2.2.2.2.1) vwCl (aw_w G.2.2.2.2.2 ad w ++ [(q, aw_e G.2.2.2.2.2 ad e)]) H') (h2 : va_D (aw_A G) (aw_w G.2.2.2.2.2 ad w ++ [(q, aw_e G.2.2.2.2.2 ad e)])) (h3 : va_S (aw_A G) s.heap H' locs) {st' : List Value} (hs : (∀ v ∈ st, aw_vok (w ++ [e]).length v) → ∀ v ∈ st', aw_vok (w ++ [e]).length v) :
    aw_D G F s adE nE (w ++ [e]) loc st' kc' ks' H' locs ls (va_up ad w.length q) (cells + 1) (slots + N) := by
  obtain ⟨-, -, -, h4, h5, h6, h7, h8, h9, h10, h11⟩ := h
  have hle : w.length ≤ (w ++ [e]).length := by rw [List.length_append]; exact Nat.le_add_right _ _
  refine ⟨?_, ?_, h3, aw_wok_push h4 he, aw_l_congr aw_up_old h6 h5, aw_lok_mono hle h6, hs (fun v hv => aw_vok_mono hle (h7 v hv)), by omega, by omega, Nat.le_trans h10 hle, fun k hk => ?_⟩
  · rw [aw_w_push h4 he]; exact h1
  · rw [aw_w_push h4 he]; exact h2
  · rw [aw_up_old k (Nat.lt_of_lt_of_le hk h10)]; exact h11 k hk
theorem aw_push_len {e : va_E} : w.length < (w ++ [e]).length := by rw [List.length_append]; exact Nat.lt_succ_self _
theorem aw_push_st {e : va_E} {q : Nat} (hst : ∀ v ∈ st, aw_vok w.length v) : Value.ref q :: st.map (aw_v ad) = (Value.ref w.length :: st).map (aw_v (va_up ad w.length q)) := by
  rw [List.map_cons, aw_vs_congr aw_up_old hst]
  show _ = Value.ref (va_up ad w.length q w.length) :: _
  rw [va_up_self]
end AWh
section AWk
variable {G : aw_G} {F : aw_F} {kc ks : Nat} {w : List va_E} {pc : Nat} {loc : List (Option Value)} {st : List Value} {Q : aw_R → List va_E → Prop}
theorem r_get {a ci k index N : Nat} {C ref : String} {T : u_T} {fs : List Value} {v : Value} (hc : vwCl[ci]? = some (C, T, N)) (hin : ∀ z ∈ u_ws C T N, z ∈ aw_ztb) (hk : k < N) (hlink : Cond.fieldLink (aw_own F) index ref (T k).2.1 (T k).2.2.1 ∈ aw_ztb) (href : ref = (T k).1) (hw : w[a]? = some (.inr (ci, fs))) (hv : fs[k]? = some v) (hdg : decode (aw_c F) pc = .ok (.getfield index, 3)) (kk : AW G F kc ks w (pc + 3) loc (v :: st) Q) : AW G F kc ks w pc loc (.ref a :: st) Q := by
  intro p e s m args below meth c adE nE hS H locs ls ad cells slots hD
  obtain ⟨hx, hb, hml, hr, hlk, hown, htab, hini, hO, hG⟩ := id hS
  obtain ⟨hP, hDD, hSS, hw0, hl0, hlo, hst, hkc, hks, hn9, had⟩ := id hD
  have hts := aw_hts hS
  subst href
  refine va_get (Ts := aw_ztb) hx hb hts hin hown (aw_hK hS) hP a (aw_w_some hw) hc k hk (hts _ hlink) (fun _ h9 => h9) (v := aw_v ad v) ?_ hdg (kk p e s m args below meth c adE nE hS H locs ls ad cells slots (aw_D_st hD (aw_s1 (hw0 a _ hw v (List.mem_of_getElem? hv)))))
  show (fs.map (aw_v ad))[k]? = some (aw_v ad v)
  rw [List.getElem?_map, hv]; rfl
theorem r_put {a ci k index N : Nat} {C ref : String} {T : u_T} {ty0 : Nat → FieldType} {fs : List Value} {v : Value} {w' : List va_E} (hc : vwCl[ci]? = some (C, T, N)) (hin : ∀ z ∈ u_ws C T N, z ∈ aw_ztb) (hty : ∀ k, k < N → parseFieldDescriptor (T k).2.2.1 = some (ty0 k)) (hnm : ∀ a, a < N → ∀ b, b < N → a ≠ b → (T a).2.1 ≠ (T b).2.1) (hk : k < N) (hlink : Cond.fieldLink (aw_own F) index ref (T k).2.1 (T k).2.2.1 ∈ aw_ztb) (href : ref = (T k).1) (hfin : (T k).2.2.2 = false) (hn : ∀ ad : Nat → Nat, narrow (ty0 k) (aw_v ad v) = aw_v ad v ∧ fits (ty0 k) (aw_v ad v) = true) (hw : w[a]? = some (.inr (ci, fs))) (hl : k < fs.length) (hdg : decode (aw_c F) pc = .ok (.putfield index, 3)) (hw' : w.set a (.inr (ci, fs.set k v)) = w') (kk : AW G F kc ks w' (pc + 3) loc st Q) : AW G F kc ks w pc loc (v :: .ref a :: st) Q := by
  intro p e s m args below meth c adE nE hS H locs ls ad cells slots hD
  obtain ⟨hx, hb, hml, hr, hlk, hown, htab, hini, hO, hG⟩ := id hS
  obtain ⟨hP, hDD, hSS, hw0, hl0, hlo, hst, hkc, hks, hn9, had⟩ := id hD
  have hts := aw_hts hS
  subst href
  subst hw'
  refine va_put (Ts := aw_ztb) (fs := fs.map (aw_v ad)) hx hb hts hin ty0 hty hnm hown (aw_hK hS) hP hDD hSS a (aw_w_some hw) hc k hk (hts _ hlink) (fun _ h9 => h9) hfin (hty k hk) (hn ad).1 (hn ad).2 (by rw [List.length_map]; exact hl) hdg (fun H1 locs1 hP1 hD1 hS1 => ?_)
  rw [aw_set_obj] at hP1 hD1
  refine kk p e s m args below meth c adE nE hS H1 locs1 ls ad cells slots (aw_D_put hD (by rw [List.length_set]) aw_d2 hP1 hD1 hS1 (aw_wok_set hw0 ?_))
  intro v1 hv1
  rcases List.mem_or_eq_of_mem_set hv1 with h | h
  · exact hw0 a _ hw v1 h
  · rw [h]; exact hst v List.mem_cons_self
theorem r_putF {a ci k index N : Nat} {C ref : String} {T : u_T} {ty0 : Nat → FieldType} {fs : List Value} {v : Value} {w' : List va_E} (hc : vwCl[ci]? = some (C, T, N)) (hin : ∀ z ∈ u_ws C T N, z ∈ aw_ztb) (hty : ∀ k, k < N → parseFieldDescriptor (T k).2.2.1 = some (ty0 k)) (hnm : ∀ a, a < N → ∀ b, b < N → a ≠ b → (T a).2.1 ≠ (T b).2.1) (hk : k < N) (hlink : Cond.fieldLink (aw_own F) index ref (T k).2.1 (T k).2.2.1 ∈ aw_ztb) (href : ref = (T k).1) (hfin : (T k).2.2.2 = true) (hy : (aw_y F).name = "<init>") (hdecl : (T k).1 = aw_own F) (hn : ∀ ad : Nat → Nat, narrow (ty0 k) (aw_v ad v) = aw_v ad v ∧ fits (ty0 k) (aw_v ad v) = true) (hw : w[a]? = some (.inr (ci, fs))) (hl : k < fs.length) (hdg : decode (aw_c F) pc = .ok (.putfield index, 3)) (hw' : w.set a (.inr (ci, fs.set k v)) = w') (kk : AW G F kc ks w' (pc + 3) loc st Q) : AW G F kc ks w pc loc (v :: .ref a :: st) Q := by
  intro p e s m args below meth c adE nE hS H locs ls ad cells slots hD
  obtain ⟨hx, hb, hml, hr, hlk, hown, htab, hini, hO, hG⟩ := id hS
  obtain ⟨hP, hDD, hSS, hw0, hl0, hlo, hst, hkc, hks, hn9, had⟩ := id hD
  have hts := aw_hts hS
  subst href
  subst hw'
  refine va_putF (Ts := aw_ztb) (fs := fs.map (aw_v ad)) hx hb hts hin ty0 hty hnm hown (aw_hK hS) hP hDD hSS a (aw_w_some hw) hc k hk (hts _ hlink) (fun _ h9 => h9) hfin (hini hy) hdecl (hty k hk) (hn ad).1 (hn ad).2 (by rw [List.length_map]; exact hl) hdg (fun H1 locs1 hP1 hD1 hS1 => ?_)
  rw [aw_set_obj] at hP1 hD1
  refine kk p e s m args below meth c adE nE hS H1 locs1 ls ad cells slots (aw_D_put hD (by rw [List.length_set]) aw_d2 hP1 hD1 hS1 (aw_wok_set hw0 ?_))
  intro v1 hv1
  rcases List.mem_or_eq_of_mem_set hv1 with h | h
  · exact hw0 a _ hw v1 h
  · rw [h]; exact hst v List.mem_cons_self
theorem r_iaload {a n : Nat} {f : Nat → Int32} {i : Int32} (hw : w[a]? = some (.inl (0, n, .inl f))) (hi : vp_in i n) (hdg : decode (aw_c F) pc = .ok (.iaload, 1)) (kk : AW G F kc ks w (pc + 1) loc (.int (f i.toNatClampNeg) :: st) Q) : AW G F kc ks w pc loc (.int i :: .ref a :: st) Q := by
  intro p e s m args below meth c adE nE hS H locs ls ad cells slots hD
  obtain ⟨hx, hb, hml, hr, hlk, hown, htab, hini, hO, hG⟩ := id hS
  obtain ⟨hP, hDD, hSS, hw0, hl0, hlo, hst, hkc, hks, hn9, had⟩ := id hD
  exact va_iald hx hb (aw_hK hS) hP a 0 (aw_w_some hw) rfl hi hdg (kk p e s m args below meth c adE nE hS H locs ls ad cells slots (aw_D_st hD (aw_s2 aw_vok_int)))
theorem r_zaload {a n : Nat} {f : Nat → Int32} {i : Int32} (hw : w[a]? = some (.inl (1, n, .inl f))) (hi : vp_in i n) (hdg : decode (aw_c F) pc = .ok (.baload, 1)) (kk : AW G F kc ks w (pc + 1) loc (.int (f i.toNatClampNeg) :: st) Q) : AW G F kc ks w pc loc (.int i :: .ref a :: st) Q := by
  intro p e s m args below meth c adE nE hS H locs ls ad cells slots hD
  obtain ⟨hx, hb, hml, hr, hlk, hown, htab, hini, hO, hG⟩ := id hS
  obtain ⟨hP, hDD, hSS, hw0, hl0, hlo, hst, hkc, hks, hn9, had⟩ := id hD
  exact va_zald hx hb (aw_hK hS) hP a 1 (aw_w_some hw) rfl hi hdg (kk p e s m args below meth c adE nE hS H locs ls ad cells slots (aw_D_st hD (aw_s2 aw_vok_int)))
theorem r_caload {a n : Nat} {f : Nat → Int32} {i : Int32} (hw : w[a]? = some (.inl (2, n, .inl f))) (hi : vp_in i n) (hdg : decode (aw_c F) pc = .ok (.caload, 1)) (kk : AW G F kc ks w (pc + 1) loc (.int (f i.toNatClampNeg) :: st) Q) : AW G F kc ks w pc loc (.int i :: .ref a :: st) Q := by
  intro p e s m args below meth c adE nE hS H locs ls ad cells slots hD
  obtain ⟨hx, hb, hml, hr, hlk, hown, htab, hini, hO, hG⟩ := id hS
  obtain ⟨hP, hDD, hSS, hw0, hl0, hlo, hst, hkc, hks, hn9, had⟩ := id hD
  exact va_cald hx hb (aw_hK hS) hP a 2 (aw_w_some hw) rfl hi hdg (kk p e s m args below meth c adE nE hS H locs ls ad cells slots (aw_D_st hD (aw_s2 aw_vok_int)))
theorem r_laload {a n : Nat} {f : Nat → Int64} {i : Int32} (hw : w[a]? = some (.inl (3, n, .inr (.inl f)))) (hi : vp_in i n) (hdg : decode (aw_c F) pc = .ok (.laload, 1)) (kk : AW G F kc ks w (pc + 1) loc (.long (f i.toNatClampNeg) :: st) Q) : AW G F kc ks w pc loc (.int i :: .ref a :: st) Q := by
  intro p e s m args below meth c adE nE hS H locs ls ad cells slots hD
  obtain ⟨hx, hb, hml, hr, hlk, hown, htab, hini, hO, hG⟩ := id hS
  obtain ⟨hP, hDD, hSS, hw0, hl0, hlo, hst, hkc, hks, hn9, had⟩ := id hD
  exact va_lald hx hb (aw_hK hS) hP a 3 (aw_w_some hw) rfl hi hdg (kk p e s m args below meth c adE nE hS H locs ls ad cells slots (aw_D_st hD (aw_s2 aw_vok_long)))
theorem r_aaload {a n t : Nat} {f : Nat → Option Nat} {i : Int32} {C : String} (ht : ∀ cA : Nat → ClassId, (aw_tys cA)[t]? = some (cA t, .object C)) (hw : w[a]? = some (.inl (t, n, .inr (.inr (.inr (.inr f)))))) (hi : vp_in i n) (hdg : decode (aw_c F) pc = .ok (.aaload, 1)) (kk : AW G F kc ks w (pc + 1) loc (va_rf (f i.toNatClampNeg) :: st) Q) : AW G F kc ks w pc loc (.int i :: .ref a :: st) Q := by
  intro p e s m args below meth c adE nE hS H locs ls ad cells slots hD
  obtain ⟨hx, hb, hml, hr, hlk, hown, htab, hini, hO, hG⟩ := id hS
  obtain ⟨hP, hDD, hSS, hw0, hl0, hlo, hst, hkc, hks, hn9, had⟩ := id hD
  refine va_aldq hx hb (aw_hK hS) hP a t (aw_w_some hw) (ht _) hi hdg ?_
  have h := kk p e s m args below meth c adE nE hS H locs ls ad cells slots (aw_D_st hD (aw_s2 (aw_vok_rf (fun k hk => hw0 a _ hw f rfl _ k hk))))
  rw [List.map_cons, aw_v_rf] at h
  exact h
theorem r_iastore {a n : Nat} {f : Nat → Int32} {i : Int32} {x : Int32} {w' : List va_E} (hw : w[a]? = some (.inl (0, n, .inl f))) (hi : vp_in i n) (hdg : decode (aw_c F) pc = .ok (.iastore, 1)) (hw' : w.set a (.inl (0, n, .inl (upd f i.toNatClampNeg x))) = w') (kk : AW G F kc ks w' (pc + 1) loc st Q) : AW G F kc ks w pc loc (.int x :: .int i :: .ref a :: st) Q := by
  intro p e s m args below meth c adE nE hS H locs ls ad cells slots hD
  obtain ⟨hx, hb, hml, hr, hlk, hown, htab, hini, hO, hG⟩ := id hS
  obtain ⟨hP, hDD, hSS, hw0, hl0, hlo, hst, hkc, hks, hn9, had⟩ := id hD
  subst hw'
  refine va_iast hx hb (aw_hK hS) hP hDD hSS a 0 (aw_w_some hw) rfl hi hdg (fun H1 locs1 hP1 hD1 hS1 => ?_)
  have e9 := aw_w_set G.2.2.2.2.2 ad w a (.inl (0, n, .inl (upd f i.toNatClampNeg x)))
  exact kk p e s m args below meth c adE nE hS H1 locs1 ls ad cells slots (aw_D_put hD (by rw [List.length_set]) aw_d3 (e9 ▸ hP1) (e9 ▸ hD1) hS1 (aw_wok_set hw0 (fun f9 h9 => by cases h9)))
theorem r_zastore {a n : Nat} {f : Nat → Int32} {i : Int32} {x : Int32} {w' : List va_E} (hw : w[a]? = some (.inl (1, n, .inl f))) (hi : vp_in i n) (hdg : decode (aw_c F) pc = .ok (.bastore, 1)) (hw' : w.set a (.inl (1, n, .inl (upd f i.toNatClampNeg (vp_nar .boolean x)))) = w') (kk : AW G F kc ks w' (pc + 1) loc st Q) : AW G F kc ks w pc loc (.int x :: .int i :: .ref a :: st) Q := by
  intro p e s m args below meth c adE nE hS H locs ls ad cells slots hD
  obtain ⟨hx, hb, hml, hr, hlk, hown, htab, hini, hO, hG⟩ := id hS
  obtain ⟨hP, hDD, hSS, hw0, hl0, hlo, hst, hkc, hks, hn9, had⟩ := id hD
  subst hw'
  refine va_zast hx hb (aw_hK hS) hP hDD hSS a 1 (aw_w_some hw) rfl hi hdg (fun H1 locs1 hP1 hD1 hS1 => ?_)
  have e9 := aw_w_set G.2.2.2.2.2 ad w a (.inl (1, n, .inl (upd f i.toNatClampNeg (vp_nar .boolean x))))
  exact kk p e s m args below meth c adE nE hS H1 locs1 ls ad cells slots (aw_D_put hD (by rw [List.length_set]) aw_d3 (e9 ▸ hP1) (e9 ▸ hD1) hS1 (aw_wok_set hw0 (fun f9 h9 => by cases h9)))
theorem r_castore {a n : Nat} {f : Nat → Int32} {i : Int32} {x : Int32} {w' : List va_E} (hw : w[a]? = some (.inl (2, n, .inl f))) (hi : vp_in i n) (hdg : decode (aw_c F) pc = .ok (.castore, 1)) (hw' : w.set a (.inl (2, n, .inl (upd f i.toNatClampNeg (vp_nar .char x)))) = w') (kk : AW G F kc ks w' (pc + 1) loc st Q) : AW G F kc ks w pc loc (.int x :: .int i :: .ref a :: st) Q := by
  intro p e s m args below meth c adE nE hS H locs ls ad cells slots hD
  obtain ⟨hx, hb, hml, hr, hlk, hown, htab, hini, hO, hG⟩ := id hS
  obtain ⟨hP, hDD, hSS, hw0, hl0, hlo, hst, hkc, hks, hn9, had⟩ := id hD
  subst hw'
  refine va_cast hx hb (aw_hK hS) hP hDD hSS a 2 (aw_w_some hw) rfl hi hdg (fun H1 locs1 hP1 hD1 hS1 => ?_)
  have e9 := aw_w_set G.2.2.2.2.2 ad w a (.inl (2, n, .inl (upd f i.toNatClampNeg (vp_nar .char x))))
  exact kk p e s m args below meth c adE nE hS H1 locs1 ls ad cells slots (aw_D_put hD (by rw [List.length_set]) aw_d3 (e9 ▸ hP1) (e9 ▸ hD1) hS1 (aw_wok_set hw0 (fun f9 h9 => by cases h9)))
theorem r_lastore {a n : Nat} {f : Nat → Int64} {i : Int32} {x : Int64} {w' : List va_E} (hw : w[a]? = some (.inl (3, n, .inr (.inl (f))))) (hi : vp_in i n) (hdg : decode (aw_c F) pc = .ok (.lastore, 1)) (hw' : w.set a (.inl (3, n, .inr (.inl (vp_updL f i.toNatClampNeg x)))) = w') (kk : AW G F kc ks w' (pc + 1) loc st Q) : AW G F kc ks w pc loc (.long x :: .int i :: .ref a :: st) Q := by
  intro p e s m args below meth c adE nE hS H locs ls ad cells slots hD
  obtain ⟨hx, hb, hml, hr, hlk, hown, htab, hini, hO, hG⟩ := id hS
  obtain ⟨hP, hDD, hSS, hw0, hl0, hlo, hst, hkc, hks, hn9, had⟩ := id hD
  subst hw'
  refine va_last hx hb (aw_hK hS) hP hDD hSS a 3 (aw_w_some hw) rfl hi hdg (fun H1 locs1 hP1 hD1 hS1 => ?_)
  have e9 := aw_w_set G.2.2.2.2.2 ad w a (.inl (3, n, .inr (.inl (vp_updL f i.toNatClampNeg x))))
  exact kk p e s m args below meth c adE nE hS H1 locs1 ls ad cells slots (aw_D_put hD (by rw [List.length_set]) aw_d3 (e9 ▸ hP1) (e9 ▸ hD1) hS1 (aw_wok_set hw0 (fun f9 h9 => by cases h9)))
theorem r_aastore {a n t v ci : Nat} {f : Nat → Option Nat} {i : Int32} {r : vw_C} {vs : List Value} {w' : List va_E} (ht : ∀ cA : Nat → ClassId, (aw_tys cA)[t]? = some (cA t, .object r.1)) (hw : w[a]? = some (.inl (t, n, .inr (.inr (.inr (.inr f)))))) (hv : w[v]? = some (.inr (ci, vs))) (hc : vwCl[ci]? = some r) (hi : vp_in i n) (hdg : decode (aw_c F) pc = .ok (.aastore, 1)) (hw' : w.set a (.inl (t, n, .inr (.inr (.inr (.inr (va_up f i.toNatClampNeg (some v))))))) = w') (kk : AW G F kc ks w' (pc + 1) loc st Q) : AW G F kc ks w pc loc (.ref v :: .int i :: .ref a :: st) Q := by
  intro p e s m args below meth c adE nE hS H locs ls ad cells slots hD
  obtain ⟨hx, hb, hml, hr, hlk, hown, htab, hini, hO, hG⟩ := id hS
  obtain ⟨hP, hDD, hSS, hw0, hl0, hlo, hst, hkc, hks, hn9, had⟩ := id hD
  subst hw'
  refine va_astq hx hb (aw_hK hS) hP hDD hSS a t v ci (aw_w_some hw) (ht _) (aw_w_some hv) hc hi hdg (fun H1 locs1 hP1 hD1 hS1 => ?_)
  have e9 : (aw_w G.2.2.2.2.2 ad w).set a (ad a, Sum.inl (G.2.2.2.2.2 t, n, Sum.inr (Sum.inr (Sum.inr (Sum.inr (va_up (fun j => (f j).map ad) i.toNatClampNeg (some (ad v)))))))) = aw_w G.2.2.2.2.2 ad (w.set a (.inl (t, n, .inr (.inr (.inr (.inr (va_up f i.toNatClampNeg (some v)))))))) := by
    rw [← aw_w_set, ← show (fun j => (va_up f i.toNatClampNeg (some v) j).map ad) = va_up (fun j => (f j).map ad) i.toNatClampNeg (some (ad v)) from aw_up_map ad f _ (some v)]
    rfl
  exact kk p e s m args below meth c adE nE hS H1 locs1 ls ad cells slots (aw_D_put hD (by rw [List.length_set]) aw_d3 (e9 ▸ hP1) (e9 ▸ hD1) hS1 (aw_wok_set hw0 (fun f9 h9 j k hk => by
    cases h9
    unfold va_up at hk
    by_cases hj : j = i.toNatClampNeg
    · rw [if_pos hj] at hk; cases hk; exact hst _ List.mem_cons_self v rfl
    · rw [if_neg hj] at hk; exact hw0 a _ hw f rfl j k hk)))
theorem r_aastoreN {a n t : Nat} {f : Nat → Option Nat} {i : Int32} {C : String} {w' : List va_E} (ht : ∀ cA : Nat → ClassId, (aw_tys cA)[t]? = some (cA t, .object C)) (hw : w[a]? = some (.inl (t, n, .inr (.inr (.inr (.inr f)))))) (hi : vp_in i n) (hdg : decode (aw_c F) pc = .ok (.aastore, 1)) (hw' : w.set a (.inl (t, n, .inr (.inr (.inr (.inr (va_up f i.toNatClampNeg none)))))) = w') (kk : AW G F kc ks w' (pc + 1) loc st Q) : AW G F kc ks w pc loc (.null :: .int i :: .ref a :: st) Q := by
  intro p e s m args below meth c adE nE hS H locs ls ad cells slots hD
  obtain ⟨hx, hb, hml, hr, hlk, hown, htab, hini, hO, hG⟩ := id hS
  obtain ⟨hP, hDD, hSS, hw0, hl0, hlo, hst, hkc, hks, hn9, had⟩ := id hD
  subst hw'
  refine va_astqN hx hb (aw_hK hS) hP hDD hSS a t (aw_w_some hw) (ht _) hi hdg (fun H1 locs1 hP1 hD1 hS1 => ?_)
  have e9 : (aw_w G.2.2.2.2.2 ad w).set a (ad a, Sum.inl (G.2.2.2.2.2 t, n, Sum.inr (Sum.inr (Sum.inr (Sum.inr (va_up (fun j => (f j).map ad) i.toNatClampNeg none)))))) = aw_w G.2.2.2.2.2 ad (w.set a (.inl (t, n, .inr (.inr (.inr (.inr (va_up f i.toNatClampNeg none))))))) := by
    rw [← aw_w_set, ← show (fun j => (va_up f i.toNatClampNeg none j).map ad) = va_up (fun j => (f j).map ad) i.toNatClampNeg none from aw_up_map ad f _ none]
    rfl
  exact kk p e s m args below meth c adE nE hS H1 locs1 ls ad cells slots (aw_D_put hD (by rw [List.length_set]) aw_d3 (e9 ▸ hP1) (e9 ▸ hD1) hS1 (aw_wok_set hw0 (fun f9 h9 j k hk => by
    cases h9
    unfold va_up at hk
    by_cases hj : j = i.toNatClampNeg
    · rw [if_pos hj] at hk; cases hk
    · rw [if_neg hj] at hk; exact hw0 a _ hw f rfl j k hk)))
theorem r_alen {a t : Nat} {x : vp_A} {ty : FieldType} {v : Int32} (ht : ∀ cA : Nat → ClassId, (aw_tys cA)[t]? = some (cA t, ty)) (hw : w[a]? = some (.inl (t, x))) (hv : Int32.ofNat x.1 = v) (hdg : decode (aw_c F) pc = .ok (.arraylength, 1)) (kk : AW G F kc ks w (pc + 1) loc (.int v :: st) Q) : AW G F kc ks w pc loc (.ref a :: st) Q := by
  intro p e s m args below meth c adE nE hS H locs ls ad cells slots hD
  obtain ⟨hx, hb, hml, hr, hlk, hown, htab, hini, hO, hG⟩ := id hS
  obtain ⟨hP, hDD, hSS, hw0, hl0, hlo, hst, hkc, hks, hn9, had⟩ := id hD
  exact va_alen hx hb (aw_hK hS) hP a t (aw_w_some hw) (ht _) hv hdg (kk p e s m args below meth c adE nE hS H locs ls ad cells slots (aw_D_st hD (aw_s1 aw_vok_int)))
theorem r_new {ci index N kc' ks' : Nat} {C : String} {T : u_T} {ty0 : Nat → FieldType} {fs : List Value} (hc : vwCl[ci]? = some (C, T, N)) (hin : ∀ z ∈ u_ws C T N, z ∈ aw_ztb) (hty : ∀ k, k < N → parseFieldDescriptor (T k).2.2.1 = some (ty0 k)) (hcl : Cond.classLink (aw_own F) index C ∈ aw_ztb) (hinst : Cond.instantiable C N ∈ aw_ztb) (hini9 : Cond.initialized C ∈ aw_ztb) (hfs : ∀ j, j < N → defaultValue (ty0 j) = vp_V fs j) (hfa : ∀ ad : Nat → Nat, fs.map (aw_v ad) = fs) (hfo : ∀ n : Nat, aw_eok n (.inr (ci, fs))) (hkc9 : kc' + 1 ≤ kc) (hks9 : ks' + N ≤ ks) (hdg : decode (aw_c F) pc = .ok (.new index, 3)) (kk : AW G F kc' ks' (w ++ [.inr (ci, fs)]) (pc + 3) loc (.ref w.length :: st) Q) : AW G F kc ks w pc loc st Q := by
  intro p e s m args below meth c adE nE hS H locs ls ad cells slots hD
  obtain ⟨hx, hb, hml, hr, hlk, hown, htab, hini, hO, hG⟩ := id hS
  obtain ⟨hP, hDD, hSS, hw0, hl0, hlo, hst, hkc, hks, hn9, had⟩ := id hD
  have hts := aw_hts hS
  refine va_new (ci := ci) (fs := fs) (Ts := aw_ztb) hx hb hts hin ty0 hty hown (hts _ hcl) (hts _ hinst) (hts _ hini9) (aw_hK hS) hP hDD hSS (aw_hA hS) hc hfs (show cells + 1 ≤ aw_mc F by omega) (show slots + N ≤ aw_ms F by omega) hdg (fun q H1 hP1 hD1 hS1 => ?_)
  have e9 : aw_e G.2.2.2.2.2 ad (.inr (ci, fs)) = .inr (ci, fs) := by
    show Sum.inr (ci, fs.map (aw_v ad)) = _
    rw [hfa]
  rw [← e9] at hP1 hD1
  rw [aw_push_st (e := .inr (ci, fs)) hst]
  exact kk p e s m args below meth c adE nE hS H1 locs ls (va_up ad w.length q) (cells + 1) (slots + N) (aw_D_push hD (hfo _) hkc9 hks9 hP1 hD1 hS1 (aw_s0 (aw_vok_ref aw_push_len)))
theorem r_new_int {kc' ks' N : Nat} {n : Int32} (harr : Cond.arrayClass .int ∈ aw_ztb) (hn : ¬ n < 0) (hN : n.toNatClampNeg = N) (hby : N * componentBytes .int ≤ 536870912) (hkc9 : kc' + 1 ≤ kc) (hks9 : ks' + N ≤ ks) (hdg : decode (aw_c F) pc = .ok (.newarray .int, 2)) (kk : AW G F kc' ks' (w ++ [.inl (0, N, .inl (fun _ => 0))]) (pc + 2) loc (.ref w.length :: st) Q) : AW G F kc ks w pc loc (.int n :: st) Q := by
  intro p e s m args below meth c adE nE hS H locs ls ad cells slots hD
  obtain ⟨hx, hb, hml, hr, hlk, hown, htab, hini, hO, hG⟩ := id hS
  obtain ⟨hP, hDD, hSS, hw0, hl0, hlo, hst, hkc, hks, hn9, had⟩ := id hD
  have hts := aw_hts hS
  refine va_newa (atype := .int) (ty := .int) (a0 := (N, .inl (fun _ => 0))) hx hb (hts _ harr) rfl (aw_hK hS) hP hDD hSS (aw_hA hS) (fun _ => rfl) hn hN hby (show cells + 1 ≤ aw_mc F by omega) (show slots + N ≤ aw_ms F by omega) hdg (fun q c1 H1 hK1 hP1 hD1 hS1 => ?_)
  have e8 := aw_ty_eq 0 rfl (aw_hK hS) hK1
  subst e8
  rw [aw_push_st (e := .inl (0, N, .inl (fun _ => 0))) (fun v hv => hst v (List.mem_cons_of_mem _ hv))]
  exact kk p e s m args below meth c adE nE hS H1 locs ls (va_up ad w.length q) (cells + 1) (slots + N) (aw_D_push (e := .inl (0, N, .inl (fun _ => 0))) hD (fun f9 h9 => by cases h9) hkc9 hks9 hP1 hD1 hS1 (aw_s1 (aw_vok_ref aw_push_len)))
theorem r_new_boolean {kc' ks' N : Nat} {n : Int32} (harr : Cond.arrayClass .boolean ∈ aw_ztb) (hn : ¬ n < 0) (hN : n.toNatClampNeg = N) (hby : N * componentBytes .boolean ≤ 536870912) (hkc9 : kc' + 1 ≤ kc) (hks9 : ks' + N ≤ ks) (hdg : decode (aw_c F) pc = .ok (.newarray .boolean, 2)) (kk : AW G F kc' ks' (w ++ [.inl (1, N, .inl (fun _ => 0))]) (pc + 2) loc (.ref w.length :: st) Q) : AW G F kc ks w pc loc (.int n :: st) Q := by
  intro p e s m args below meth c adE nE hS H locs ls ad cells slots hD
  obtain ⟨hx, hb, hml, hr, hlk, hown, htab, hini, hO, hG⟩ := id hS
  obtain ⟨hP, hDD, hSS, hw0, hl0, hlo, hst, hkc, hks, hn9, had⟩ := id hD
  have hts := aw_hts hS
  refine va_newa (atype := .boolean) (ty := .boolean) (a0 := (N, .inl (fun _ => 0))) hx hb (hts _ harr) rfl (aw_hK hS) hP hDD hSS (aw_hA hS) (fun _ => rfl) hn hN hby (show cells + 1 ≤ aw_mc F by omega) (show slots + N ≤ aw_ms F by omega) hdg (fun q c1 H1 hK1 hP1 hD1 hS1 => ?_)
  have e8 := aw_ty_eq 1 rfl (aw_hK hS) hK1
  subst e8
  rw [aw_push_st (e := .inl (1, N, .inl (fun _ => 0))) (fun v hv => hst v (List.mem_cons_of_mem _ hv))]
  exact kk p e s m args below meth c adE nE hS H1 locs ls (va_up ad w.length q) (cells + 1) (slots + N) (aw_D_push (e := .inl (1, N, .inl (fun _ => 0))) hD (fun f9 h9 => by cases h9) hkc9 hks9 hP1 hD1 hS1 (aw_s1 (aw_vok_ref aw_push_len)))
theorem r_new_char {kc' ks' N : Nat} {n : Int32} (harr : Cond.arrayClass .char ∈ aw_ztb) (hn : ¬ n < 0) (hN : n.toNatClampNeg = N) (hby : N * componentBytes .char ≤ 536870912) (hkc9 : kc' + 1 ≤ kc) (hks9 : ks' + N ≤ ks) (hdg : decode (aw_c F) pc = .ok (.newarray .char, 2)) (kk : AW G F kc' ks' (w ++ [.inl (2, N, .inl (fun _ => 0))]) (pc + 2) loc (.ref w.length :: st) Q) : AW G F kc ks w pc loc (.int n :: st) Q := by
  intro p e s m args below meth c adE nE hS H locs ls ad cells slots hD
  obtain ⟨hx, hb, hml, hr, hlk, hown, htab, hini, hO, hG⟩ := id hS
  obtain ⟨hP, hDD, hSS, hw0, hl0, hlo, hst, hkc, hks, hn9, had⟩ := id hD
  have hts := aw_hts hS
  refine va_newa (atype := .char) (ty := .char) (a0 := (N, .inl (fun _ => 0))) hx hb (hts _ harr) rfl (aw_hK hS) hP hDD hSS (aw_hA hS) (fun _ => rfl) hn hN hby (show cells + 1 ≤ aw_mc F by omega) (show slots + N ≤ aw_ms F by omega) hdg (fun q c1 H1 hK1 hP1 hD1 hS1 => ?_)
  have e8 := aw_ty_eq 2 rfl (aw_hK hS) hK1
  subst e8
  rw [aw_push_st (e := .inl (2, N, .inl (fun _ => 0))) (fun v hv => hst v (List.mem_cons_of_mem _ hv))]
  exact kk p e s m args below meth c adE nE hS H1 locs ls (va_up ad w.length q) (cells + 1) (slots + N) (aw_D_push (e := .inl (2, N, .inl (fun _ => 0))) hD (fun f9 h9 => by cases h9) hkc9 hks9 hP1 hD1 hS1 (aw_s1 (aw_vok_ref aw_push_len)))
theorem r_new_long {kc' ks' N : Nat} {n : Int32} (harr : Cond.arrayClass .long ∈ aw_ztb) (hn : ¬ n < 0) (hN : n.toNatClampNeg = N) (hby : N * componentBytes .long ≤ 536870912) (hkc9 : kc' + 1 ≤ kc) (hks9 : ks' + N ≤ ks) (hdg : decode (aw_c F) pc = .ok (.newarray .long, 2)) (kk : AW G F kc' ks' (w ++ [.inl (3, N, .inr (.inl (fun _ => 0)))]) (pc + 2) loc (.ref w.length :: st) Q) : AW G F kc ks w pc loc (.int n :: st) Q := by
  intro p e s m args below meth c adE nE hS H locs ls ad cells slots hD
  obtain ⟨hx, hb, hml, hr, hlk, hown, htab, hini, hO, hG⟩ := id hS
  obtain ⟨hP, hDD, hSS, hw0, hl0, hlo, hst, hkc, hks, hn9, had⟩ := id hD
  have hts := aw_hts hS
  refine va_newa (atype := .long) (ty := .long) (a0 := (N, .inr (.inl (fun _ => 0)))) hx hb (hts _ harr) rfl (aw_hK hS) hP hDD hSS (aw_hA hS) (fun _ => rfl) hn hN hby (show cells + 1 ≤ aw_mc F by omega) (show slots + N ≤ aw_ms F by omega) hdg (fun q c1 H1 hK1 hP1 hD1 hS1 => ?_)
  have e8 := aw_ty_eq 3 rfl (aw_hK hS) hK1
  subst e8
  rw [aw_push_st (e := .inl (3, N, .inr (.inl (fun _ => 0)))) (fun v hv => hst v (List.mem_cons_of_mem _ hv))]
  exact kk p e s m args below meth c adE nE hS H1 locs ls (va_up ad w.length q) (cells + 1) (slots + N) (aw_D_push (e := .inl (3, N, .inr (.inl (fun _ => 0)))) hD (fun f9 h9 => by cases h9) hkc9 hks9 hP1 hD1 hS1 (aw_s1 (aw_vok_ref aw_push_len)))
theorem r_newq {t index kc' ks' N : Nat} {n : Int32} {C : String} (ht : ∀ cA : Nat → ClassId, (aw_tys cA)[t]? = some (cA t, .object C)) (hcl : Cond.classLink (aw_own F) index C ∈ aw_ztb) (hover : Cond.arrayOver (.object C) ∈ lw_tbl) (hn : ¬ n < 0) (hN : n.toNatClampNeg = N) (hby : N * 4 ≤ 536870912) (hkc9 : kc' + 1 ≤ kc) (hks9 : ks' + N ≤ ks) (hdg : decode (aw_c F) pc = .ok (.anewarray index, 3)) (kk : AW G F kc' ks' (w ++ [.inl (t, N, .inr (.inr (.inr (.inr (fun _ => none)))))]) (pc + 3) loc (.ref w.length :: st) Q) : AW G F kc ks w pc loc (.int n :: st) Q := by
  intro p e s m args below meth c adE nE hS H locs ls ad cells slots hD
  obtain ⟨hx, hb, hml, hr, hlk, hown, htab, hini, hO, hG⟩ := id hS
  obtain ⟨hP, hDD, hSS, hw0, hl0, hlo, hst, hkc, hks, hn9, had⟩ := id hD
  have hts := aw_hts hS
  refine va_newq hx hb hown (hts _ hcl) (va_AO.moved hO.1.alike (va_AO.of (hG.2.1 _ hover))) (aw_hK hS) hP hDD hSS (aw_hA hS) hn hN hby (show cells + 1 ≤ aw_mc F by omega) (show slots + N ≤ aw_ms F by omega) hdg (fun q c1 H1 hK1 hP1 hD1 hS1 => ?_)
  have e8 := aw_ty_eq t (ht _) (aw_hK hS) hK1
  subst e8
  rw [aw_push_st (e := .inl (t, N, .inr (.inr (.inr (.inr (fun _ => none)))))) (fun v hv => hst v (List.mem_cons_of_mem _ hv))]
  exact kk p e s m args below meth c adE nE hS H1 locs ls (va_up ad w.length q) (cells + 1) (slots + N) (aw_D_push (e := .inl (t, N, .inr (.inr (.inr (.inr (fun _ => none)))))) hD (fun f9 h9 j k hk => by cases h9; cases hk) hkc9 hks9 hP1 hD1 hS1 (aw_s1 (aw_vok_ref aw_push_len)))
theorem r_castI {a index n : Nat} {f : Nat → Int32} (hcl : Cond.classLink (aw_own F) index "[I" ∈ aw_ztb) (hw : w[a]? = some (.inl (0, n, .inl f))) (hdg : decode (aw_c F) pc = .ok (.checkcast index, 3)) (kk : AW G F kc ks w (pc + 3) loc (.ref a :: st) Q) : AW G F kc ks w pc loc (.ref a :: st) Q := by
  intro p e s m args below meth c adE nE hS H locs ls ad cells slots hD
  obtain ⟨hx, hb, hml, hr, hlk, hown, htab, hini, hO, hG⟩ := id hS
  obtain ⟨hP, hDD, hSS, hw0, hl0, hlo, hst, hkc, hks, hn9, had⟩ := id hD
  have hts := aw_hts hS
  have h1 : s.vm.findClass "[I" = some (G.2.2.2.2.2 0) := ((aw_hK hS).2 0 _ rfl).2
  exact va_castA hx hb hown (hts _ hcl) hP a (aw_w_some hw) h1 hdg (kk p e s m args below meth c adE nE hS H locs ls ad cells slots hD)
theorem r_cloneI {a index n kc' ks' : Nat} {f : Nat → Int32} (hw : w[a]? = some (.inl (0, n, .inl f))) (hlink : Cond.methodLink (aw_own F) index ⟨"[I", "clone", "()Ljava/lang/Object;"⟩ ∈ aw_ztb) (hsame : Cond.sameMethod "[I" "java/lang/Object" "clone" "()Ljava/lang/Object;" ∈ aw_ztb) (hnat : Cond.native ⟨"java/lang/Object", "clone", "()Ljava/lang/Object;"⟩ ∈ aw_ztb) (hinst : Cond.instanceMethod ⟨"java/lang/Object", "clone", "()Ljava/lang/Object;"⟩ ∈ aw_ztb) (hsel : Cond.selects "[I" ⟨"[I", "clone", "()Ljava/lang/Object;"⟩ ⟨"java/lang/Object", "clone", "()Ljava/lang/Object;"⟩ ∈ aw_ztb) (hca : Cond.castable "[I" "java/lang/Cloneable" ∈ lw_tbl)
    (hfr : 1 ≤ aw_fr F) (hlo9 : (st.map fun v => v.category).sum + 14 ≤ aw_lo F) (hkc9 : kc' + 1 ≤ kc) (hks9 : ks' + n ≤ ks) (hdg : decode (aw_c F) pc = .ok (.invokevirtual index, 3)) (kk : AW G F kc' ks' (w ++ [.inl (0, n, .inl f)]) (pc + 3) loc (.ref w.length :: st) Q) : AW G F kc ks w pc loc (.ref a :: st) Q := by
  intro p e s m args below meth c adE nE hS H locs ls ad cells slots hD
  obtain ⟨hx, hb, hml, hr, hlk, hown, htab, hini, hO, hG⟩ := id hS
  obtain ⟨hP, hDD, hSS, hw0, hl0, hlo, hst, hkc, hks, hn9, had⟩ := id hD
  have hts := aw_hts hS
  have h1 : s.vm.findClass "[I" = some (G.2.2.2.2.2 0) := ((aw_hK hS).2 0 _ rfl).2
  refine va_clone (x := (n, .inl f)) (ty := .int) hx hb (hml.trans hl0.1.symm) hown (hts _ hlink) (hts _ hsame) (hts _ hnat) (hts _ hinst) (hts _ hsel) (va_Nw.warmC hO.1 (va_Nw.of rfl (hG.2.1 _ hca))) (aw_hK hS) hP hDD hSS (aw_hA hS) a 0 (aw_w_some hw) rfl h1 (fun i v hv => ?_) hfr (by rw [aw_cats]; exact hlo9) (show cells + 1 ≤ aw_mc F by omega) (show slots + n ≤ aw_ms F by omega) hdg (fun q H1 hK1 hP1 hD1 hS1 => ?_)
  · have h2 : (arrV (G.2.2.2.2.2 0) n (fun j => Value.int (f j))).slots[i]? = some v := hv
    simp only [arrV] at h2
    rw [Array.getElem?_ofFn] at h2
    split at h2
    · cases h2; rfl
    · cases h2
  · rw [aw_push_st (e := .inl (0, n, .inl f)) (fun v hv => hst v (List.mem_cons_of_mem _ hv))]
    exact kk p e s m args below meth c adE nE hS H1 locs ls (va_up ad w.length q) (cells + 1) (slots + n) (aw_D_push (e := .inl (0, n, .inl f)) hD (fun f9 h9 => by cases h9) hkc9 hks9 hP1 hD1 hS1 (aw_s1 (aw_vok_ref aw_push_len)))
theorem r_copyI {a a0 index n0 n1 : Nat} {f g : Nat → Int32} {sp dp n : Int32} {w' : List va_E} (ha0 : w[a0]? = some (.inl (0, n0, .inl f))) (ha1 : w[a]? = some (.inl (0, n1, .inl g))) (hlink : Cond.methodLink (aw_own F) index arraycopyName ∈ aw_ztb) (hnat : Cond.native arraycopyName ∈ aw_ztb) (hstat : Cond.static arraycopyName ∈ aw_ztb) (hini9 : Cond.initialized "java/lang/System" ∈ aw_ztb) (h1 : ¬ sp < 0) (h2 : ¬ dp < 0) (h3 : ¬ n < 0) (h4 : sp.toNatClampNeg + n.toNatClampNeg ≤ n0) (h5 : dp.toNatClampNeg + n.toNatClampNeg ≤ n1)
    (hfr : 1 ≤ aw_fr F) (hlo9 : (st.map fun v => v.category).sum + (nativeFrameWords "java/lang/System" "arraycopy" 5 + 11) ≤ aw_lo F) (hdg : decode (aw_c F) pc = .ok (.invokestatic index, 3)) (hw' : w.set a (.inl (0, n1, .inl (va_cpy f g sp.toNatClampNeg dp.toNatClampNeg n.toNatClampNeg))) = w') (kk : AW G F kc ks w' (pc + 3) loc st Q) : AW G F kc ks w pc loc (.int n :: .int dp :: .ref a :: .int sp :: .ref a0 :: st) Q := by
  intro p e s m args below meth c adE nE hS H locs ls ad cells slots hD
  obtain ⟨hx, hb, hml, hr, hlk, hown, htab, hini, hO, hG⟩ := id hS
  obtain ⟨hP, hDD, hSS, hw0, hl0, hlo, hst, hkc, hks, hn9, had⟩ := id hD
  have hts := aw_hts hS
  subst hw'
  refine va_copyi (ty := .int) hx hb (hml.trans hl0.1.symm) hown (hts _ hlink) (hts _ hnat) (hts _ hstat) (hts _ hini9) (aw_hK hS) hP hDD hSS a0 a 0 0 (aw_w_some ha0) (aw_w_some ha1) rfl rfl rfl h1 h2 h3 h4 h5 (fun _ _ => rfl) hfr (by rw [aw_cats]; exact hlo9) hdg (fun H1 locs1 hP1 hD1 hS1 => ?_)
  have e9 := aw_w_set G.2.2.2.2.2 ad w a (.inl (0, n1, .inl (va_cpy f g sp.toNatClampNeg dp.toNatClampNeg n.toNatClampNeg)))
  exact kk p e s m args below meth c adE nE hS H1 locs1 ls ad cells slots (aw_D_put hD (by rw [List.length_set]) (fun h => aw_d3 (aw_d2 h)) (e9 ▸ hP1) (e9 ▸ hD1) hS1 (aw_wok_set hw0 (fun f9 h9 => by cases h9)))
end AWk
end
