/-! ===== the law: its cases ===== -/
def fL_law : aw_F := (RL, yL_law, cL_law, 7, some .boolean, [], 2048, 84000, 601024, 7293034)
def LX (w : List va_E) : Prop := ∃ (ow : Nat → Nat) (tn vn an : Nat) (R : Nat → List Int32) (vv : Nat → Nat) (sc : Nat → Int32) (ar : Nat → Nat → Int32) (f : Nat → Int64), LI ow w tn vn an R vv sc ar f
theorem LJ_X {w : List va_E} {c : Int32} {x : Int64} (h : LJ w c x) : LX w := by
  obtain ⟨ow, tn, vn, an, R, vv, sc, ar, f, h1, -⟩ := h
  exact ⟨ow, tn, vn, an, R, vv, sc, ar, f, h1⟩
theorem LJ_thr {G : aw_G} {w : List va_E} {c : Int32} {x : Int64} (h : LJ w c x) : AM G fX8_thrown [.ref 12] w (qx (.inl (some (.int c))) w) := by
  obtain ⟨ow, tn, vn, an, R, vv, sc, ar, f, h1, h2, -⟩ := h
  obtain ⟨hw, hl⟩ := LB_mw h1.1
  have h3 := am_thrown (G := G) (sc := sc) (ar := ar) (T := w.drop 30) hl
  rw [← hw, h2] at h3
  exact h3
theorem LJ_30 {w : List va_E} {c : Int32} {x : Int64} (h : LJ w c x) : ∃ f : Nat → Int64, w[30]? = some (.inl (3, 1, .inr (.inl f))) ∧ (c = 0 → f 0 = x) := by
  obtain ⟨ow, tn, vn, an, R, vv, sc, ar, f, h1, h2, h3⟩ := h
  exact ⟨f, h1.1.2.2.2.2, h3⟩
theorem LJ_12 {w : List va_E} {c : Int32} {x : Int64} (h : LJ w c x) : ∃ fs, w[12]? = some (.inr (7, fs)) := by
  obtain ⟨ow, tn, vn, an, R, vv, sc, ar, f, h1, -⟩ := h
  exact ⟨_, LB_12 h1.1⟩
theorem lg_same (x : Int64) : lg_cmp x x = 0 := by unfold lg_cmp; simp
theorem chr_ok (x : Int32) : narrow .char (.int ((x.toUInt32 % 65536).toInt32)) = .int ((x.toUInt32 % 65536).toInt32) ∧ vp_nar .char ((x.toUInt32 % 65536).toInt32) = (x.toUInt32 % 65536).toInt32 := by
  have h : narrow .char (.int ((x.toUInt32 % 65536).toInt32)) = .int ((x.toUInt32 % 65536).toInt32) := by
    rw [pk_char]
    exact (pk_charN (Nat.mod_lt _ (by decide))).1
  refine ⟨h, ?_⟩
  unfold vp_nar
  rw [h]
section L2
theorem tw_246 : (Jvm.Cond.methodLink "FormWrightLaw" (90 : Nat) ({ cls := "FormWrightLaw", name := "type", desc := "(LFormWright;C[J)I" } : Jvm.MethodName)) ∈ aw_ztb := aw_zw 246 (by decide +kernel) rfl
theorem tw_326 : (Jvm.Cond.methodLink "FormWrightLaw" (107 : Nat) ({ cls := "FormWrightLaw", name := "typeOfText", desc := "(LFormWright;[J)I" } : Jvm.MethodName)) ∈ aw_ztb := aw_zw 326 (by decide +kernel) rfl
theorem tw_428 : (Jvm.Cond.methodLink "FormWrightLaw" (111 : Nat) ({ cls := "FormWrightLaw", name := "setType", desc := "(LFormWright;II[J)I" } : Jvm.MethodName)) ∈ aw_ztb := aw_zw 428 (by decide +kernel) rfl
theorem tw_498 : (Jvm.Cond.methodLink "FormWrightLaw" (115 : Nat) ({ cls := "FormWrightLaw", name := "setFormula", desc := "(LFormWright;I[J)I" } : Jvm.MethodName)) ∈ aw_ztb := aw_zw 498 (by decide +kernel) rfl
theorem tw_535 : (Jvm.Cond.methodLink "FormWrightLaw" (119 : Nat) ({ cls := "FormWrightLaw", name := "dropFormula", desc := "(LFormWright;I[J)I" } : Jvm.MethodName)) ∈ aw_ztb := aw_zw 535 (by decide +kernel) rfl
theorem tw_543 : (Jvm.Cond.methodLink "FormWrightLaw" (122 : Nat) ({ cls := "FormWrightLaw", name := "isBroken", desc := "(LFormWright;I[J)I" } : Jvm.MethodName)) ∈ aw_ztb := aw_zw 543 (by decide +kernel) rfl
theorem tw_551 : (Jvm.Cond.methodLink "FormWrightLaw" (125 : Nat) ({ cls := "FormWrightLaw", name := "publish", desc := "(LFormWright;[J)I" } : Jvm.MethodName)) ∈ aw_ztb := aw_zw 551 (by decide +kernel) rfl
theorem tw_625 : (Jvm.Cond.methodLink "FormWrightLaw" (132 : Nat) ({ cls := "FormWrightLaw", name := "typeIn", desc := "(LFormWright;II[J)I" } : Jvm.MethodName)) ∈ aw_ztb := aw_zw 625 (by decide +kernel) rfl
theorem tw_638 : (Jvm.Cond.methodLink "FormWrightLaw" (135 : Nat) ({ cls := "FormWrightLaw", name := "order", desc := "(LFormWright;II[J)I" } : Jvm.MethodName)) ∈ aw_ztb := aw_zw 638 (by decide +kernel) rfl
theorem tw_653 : (Jvm.Cond.methodLink "FormWrightLaw" (138 : Nat) ({ cls := "FormWrightLaw", name := "plain", desc := "(LFormWright;III[J)I" } : Jvm.MethodName)) ∈ aw_ztb := aw_zw 653 (by decide +kernel) rfl
theorem tw_661 : (Jvm.Cond.methodLink "FormWrightLaw" (142 : Nat) ({ cls := "FormWrightLaw", name := "begin", desc := "(LFormWright;[J)I" } : Jvm.MethodName)) ∈ aw_ztb := aw_zw 661 (by decide +kernel) rfl
theorem tw_702 : (Jvm.Cond.methodLink "FormWrightLaw" (145 : Nat) ({ cls := "FormWrightLaw", name := "put", desc := "(LFormWright;III[J)I" } : Jvm.MethodName)) ∈ aw_ztb := aw_zw 702 (by decide +kernel) rfl
theorem tw_752 : (Jvm.Cond.methodLink "FormWrightLaw" (148 : Nat) ({ cls := "FormWrightLaw", name := "handIn", desc := "(LFormWright;I[J)I" } : Jvm.MethodName)) ∈ aw_ztb := aw_zw 752 (by decide +kernel) rfl
theorem tw_771 : (Jvm.Cond.methodLink "FormWrightLaw" (155 : Nat) ({ cls := "FormWrightLaw", name := "stateOf", desc := "(LFormWright;I[J)I" } : Jvm.MethodName)) ∈ aw_ztb := aw_zw 771 (by decide +kernel) rfl
theorem tw_778 : (Jvm.Cond.methodLink "FormWrightLaw" (158 : Nat) ({ cls := "FormWrightLaw", name := "versionOf", desc := "(LFormWright;I[J)I" } : Jvm.MethodName)) ∈ aw_ztb := aw_zw 778 (by decide +kernel) rfl
theorem tw_789 : (Jvm.Cond.methodLink "FormWrightLaw" (161 : Nat) ({ cls := "FormWrightLaw", name := "value", desc := "(LFormWright;II[J)I" } : Jvm.MethodName)) ∈ aw_ztb := aw_zw 789 (by decide +kernel) rfl
theorem tw_803 : (Jvm.Cond.methodLink "FormWrightLaw" (164 : Nat) ({ cls := "FormWrightLaw", name := "refusal", desc := "(LFormWright;I[J)I" } : Jvm.MethodName)) ∈ aw_ztb := aw_zw 803 (by decide +kernel) rfl
theorem tw_812 : (Jvm.Cond.methodLink "FormWrightLaw" (171 : Nat) ({ cls := "FormWrightLaw", name := "doubt", desc := "(LFormWright;II[J)I" } : Jvm.MethodName)) ∈ aw_ztb := aw_zw 812 (by decide +kernel) rfl
theorem tw_828 : (Jvm.Cond.methodLink "FormWrightLaw" (174 : Nat) ({ cls := "FormWrightLaw", name := "settle", desc := "(LFormWright;IIZ[J)I" } : Jvm.MethodName)) ∈ aw_ztb := aw_zw 828 (by decide +kernel) rfl
theorem tw_844 : (Jvm.Cond.methodLink "FormWrightLaw" (178 : Nat) ({ cls := "FormWrightLaw", name := "amend", desc := "(LFormWright;III[J)I" } : Jvm.MethodName)) ∈ aw_ztb := aw_zw 844 (by decide +kernel) rfl
theorem tw_852 : (Jvm.Cond.methodLink "FormWrightLaw" (181 : Nat) ({ cls := "FormWrightLaw", name := "doubts", desc := "(LFormWright;I[J)I" } : Jvm.MethodName)) ∈ aw_ztb := aw_zw 852 (by decide +kernel) rfl
set_option maxRecDepth 100000 in
set_option maxHeartbeats 4000000 in
theorem lc_0 {G : aw_G} (hN : aw_nc G) {w : List va_E} (hX : LX w) {i kc ks : Nat} (hi : i + 4 ≤ G.2.2.2.2.2.2.2.1) (hL9 : G.2.2.2.2.2.2.2.1 ≤ 2048) {Q : aw_R → List va_E → Prop} (kk : ∀ w', LX w' → AW G fL_law kc ks w' 1556 [some (.float 0), some (.ref 0), some (.ref 12), some (.ref 30), some (.int (nI i)), none, none] [] Q) : AW G fL_law (kc + 40) (ks + 1000) w 156 [some (.float 0), some (.ref 0), some (.ref 12), some (.ref 30), some (.int (nI i)), none, none] [] Q := by
  obtain ⟨ow, tn, vn, an, R, vv, sc, ar, fo, hLI⟩ := id hX
  have h0 := hLI.2.1.1.choose_spec.choose_spec.choose_spec.choose_spec.choose_spec.choose_spec.choose_spec.1.1.2
  refine r_aload_n (pc := 156) dL_law_156 rfl rfl ?_
  refine r_aload_nX (pc := 157) dL_law_157 rfl rfl ?_
  refine r_iload (pc := 158) dL_law_158 rfl ?_
  refine r_iconst (pc := 160) (v := 1) dL_law_160 (by decide) ?_
  refine r_iadd (pc := 161) dL_law_161 ?_
  rw [show nI i + 1 = nI (i + 1) from nI_add i 1]
  refine r_sld (pc := 162) (vp_in_nI (by omega) (by omega)) dL_law_162 ?_
  refine r_i2c (pc := 163) dL_law_163 rfl ?_
  refine r_aload_n (pc := 164) dL_law_164 rfl rfl ?_
  refine r_callSH (pc := 165) (n := 3) (kc' := kc + 20) (ks' := ks + 500) (rest := []) (cs_of hLI.1 (by decide +kernel) (al_type hN h0 (nx_type hLI _ (chr_ok _).1 (chr_ok _).2) (lE_of hLI.1))) rfl rfl kwL_type tw_51 tw_246 tw_247 ⟨(by decide : yL_type.cls ≠ "java/lang/invoke/MethodHandle"), (by decide : yL_type.cls ≠ "java/lang/invoke/VarHandle")⟩ (by decide +kernel : (parseMethodDescriptor yL_type.desc).map (fun d => d.parameters.length) = some 3) (Nat.le_of_ble_eq_true rfl) (Nat.le_of_ble_eq_true rfl) (by show kc + 20 + 1 ≤ kc + 40; omega) (by show ks + 500 + 6 ≤ ks + 1000; omega) (by exact (Nat.le_of_ble_eq_true rfl)) rfl (List.forall_mem_cons.mpr ⟨rfl, (List.forall_mem_cons.mpr ⟨rfl, (List.forall_mem_cons.mpr ⟨rfl, fun _ h => nomatch h⟩)⟩)⟩) rfl dL_law_165 (fun E w9 hq _ => by obtain ⟨c, z, -⟩ := hq; cases z) (fun r w9 hq _ => ?_)
  obtain ⟨c9, e9, ⟨fs9, h12⟩, hA⟩ := hq
  cases e9
  refine r_istore (pc := 168) dL_law_168 (Nat.le_of_ble_eq_true rfl) rfl ?_
  refine r_aload_n (pc := 170) dL_law_170 rfl rfl ?_
  refine r_aload_nX (pc := 171) dL_law_171 rfl rfl ?_
  refine r_iload (pc := 172) dL_law_172 rfl ?_
  refine r_iconst (pc := 174) (v := 1) dL_law_174 (by decide) ?_
  refine r_iadd (pc := 175) dL_law_175 ?_
  rw [show nI i + 1 = nI (i + 1) from nI_add i 1]
  refine r_sld (pc := 176) (vp_in_nI (by omega) (by omega)) dL_law_176 ?_
  refine r_i2c (pc := 177) dL_law_177 rfl ?_
  refine s_L_95 (pc := 178) (kc' := kc + 10) (ks' := ks + 100) rfl rfl hA h12 (Nat.le_of_ble_eq_true rfl) (Nat.le_of_ble_eq_true rfl) (by show kc + 10 + 0 ≤ kc + 20; omega) (by show ks + 100 + 0 ≤ ks + 500; omega) (by exact (Nat.le_of_ble_eq_true rfl)) rfl (List.forall_mem_cons.mpr ⟨rfl, (List.forall_mem_cons.mpr ⟨rfl, fun _ h => nomatch h⟩)⟩) rfl dL_law_178 (fun E w8 hq _ => by obtain ⟨b, z, -⟩ := hq; cases z) (fun r w8 hq _ => ?_)
  obtain ⟨b9, e9, hJ⟩ := hq
  cases e9
  obtain ⟨f9, h30, hf9⟩ := LJ_30 hJ
  obtain ⟨fs8, h12⟩ := LJ_12 hJ
  refine r_istore (pc := 181) dL_law_181 (Nat.le_of_ble_eq_true rfl) rfl ?_
  refine r_aload_n (pc := 183) dL_law_183 rfl rfl ?_
  refine s_L_96 (pc := 184) (kc' := kc) (ks' := ks) rfl rfl (LJ_thr hJ) h12 (Nat.le_of_ble_eq_true rfl) (Nat.le_of_ble_eq_true rfl) (by show kc + 0 ≤ kc + 10; omega) (by show ks + 0 ≤ ks + 100; omega) (by exact (Nat.le_of_ble_eq_true rfl)) rfl (List.forall_mem_cons.mpr ⟨rfl, fun _ h => nomatch h⟩) rfl dL_law_184 aw_kt (aw_kq ?_)
  refine r_iload (pc := 187) dL_law_187 rfl ?_
  refine r_icmp_eq (pc := 189) (tgt := 194) dL_law_189 (by decide) (fun h189 => ?_) (fun h => absurd rfl h)
  refine r_iload (pc := 194) dL_law_194 rfl ?_
  refine r_if_ne (pc := 196) (tgt := 211) dL_law_196 (by decide) (fun h196 => ?_) (fun h196 => ?_)
  · refine r_goto (pc := 211) (tgt := 1556) dL_law_211 (by decide) ?_
    refine AW_weak (kc' := kc) (ks' := ks) (by omega) (by omega) (fun _ _ z => z) ?_
    refine AW_drop 6 rfl ?_
    refine AW_drop 5 rfl ?_
    exact kk _ (LJ_X hJ)
  · refine r_aload_n (pc := 199) dL_law_199 rfl rfl ?_
    refine r_iconst (pc := 200) (v := 0) dL_law_200 (by decide) ?_
    refine r_laload (pc := 201) h30 (vp_in_nI (n := 0) (N := 1) (by decide) (by decide)) dL_law_201 ?_
    rw [show f9 (Int32.toNatClampNeg 0) = vlI b9 from hf9 h196]
    refine r_iload (pc := 202) dL_law_202 rfl ?_
    refine r_i2l (pc := 204) dL_law_204 ?_
    rw [show vlI b9 = b9.toInt64 from rfl]
    refine r_lcmp (pc := 205) dL_law_205 ?_
    rw [lg_same]
    refine r_if_eq (pc := 206) (tgt := 211) dL_law_206 (by decide) (fun h206 => ?_) (fun h => absurd rfl h)
    refine r_goto (pc := 211) (tgt := 1556) dL_law_211 (by decide) ?_
    refine AW_weak (kc' := kc) (ks' := ks) (by omega) (by omega) (fun _ _ z => z) ?_
    refine AW_drop 6 rfl ?_
    refine AW_drop 5 rfl ?_
    exact kk _ (LJ_X hJ)
set_option maxRecDepth 100000 in
set_option maxHeartbeats 4000000 in
theorem lc_1 {G : aw_G} (hN : aw_nc G) {w : List va_E} (hX : LX w) {i kc ks : Nat} (hi : i + 4 ≤ G.2.2.2.2.2.2.2.1) (hL9 : G.2.2.2.2.2.2.2.1 ≤ 2048) {Q : aw_R → List va_E → Prop} (kk : ∀ w', LX w' → AW G fL_law kc ks w' 1556 [some (.float 0), some (.ref 0), some (.ref 12), some (.ref 30), some (.int (nI i)), none, none] [] Q) : AW G fL_law (kc + 40) (ks + 1000) w 214 [some (.float 0), some (.ref 0), some (.ref 12), some (.ref 30), some (.int (nI i)), none, none] [] Q := by
  obtain ⟨ow, tn, vn, an, R, vv, sc, ar, fo, hLI⟩ := id hX
  have h0 := hLI.2.1.1.choose_spec.choose_spec.choose_spec.choose_spec.choose_spec.choose_spec.choose_spec.1.1.2
  refine r_aload_n (pc := 214) dL_law_214 rfl rfl ?_
  refine s_L_99 (pc := 215) (kc' := kc + 20) (ks' := ks + 500) rfl rfl (ds_of (cd := cd1) hLI.1 (nx_clear hLI)) h0 (Nat.le_of_ble_eq_true rfl) (Nat.le_of_ble_eq_true rfl) (by show kc + 20 + 0 ≤ kc + 40; omega) (by show ks + 500 + 0 ≤ ks + 1000; omega) (by exact (Nat.le_of_ble_eq_true rfl)) rfl (List.forall_mem_cons.mpr ⟨rfl, fun _ h => nomatch h⟩) rfl dL_law_215 (fun E w9 hq _ => by obtain ⟨v, z, -⟩ := hq; cases z) (fun r w9 hq _ => ?_)
  obtain ⟨v9, e9, ⟨fs9, h12⟩, hA⟩ := hq
  cases e9
  refine r_aload_n (pc := 218) dL_law_218 rfl rfl ?_
  refine s_L_102 (pc := 219) (kc' := kc + 10) (ks' := ks + 100) rfl rfl hA h12 (Nat.le_of_ble_eq_true rfl) (Nat.le_of_ble_eq_true rfl) (by show kc + 10 + 0 ≤ kc + 20; omega) (by show ks + 100 + 0 ≤ ks + 500; omega) (by exact (Nat.le_of_ble_eq_true rfl)) rfl (List.forall_mem_cons.mpr ⟨rfl, fun _ h => nomatch h⟩) rfl dL_law_219 (fun E w8 hq _ => by obtain ⟨z, -⟩ := hq; cases z) (fun r w8 hq _ => ?_)
  obtain ⟨e9, x9, hJ⟩ := hq
  cases e9
  refine r_icmp_eq (pc := 222) (tgt := 1556) dL_law_222 (by decide) (fun h222 => ?_) (fun h => absurd rfl h)
  refine AW_weak (kc' := kc) (ks' := ks) (by omega) (by omega) (fun _ _ z => z) ?_
  exact kk _ (LJ_X hJ)
set_option maxRecDepth 100000 in
set_option maxHeartbeats 4000000 in
theorem lc_2 {G : aw_G} (hN : aw_nc G) {w : List va_E} (hX : LX w) {i kc ks : Nat} (hi : i + 4 ≤ G.2.2.2.2.2.2.2.1) (hL9 : G.2.2.2.2.2.2.2.1 ≤ 2048) {Q : aw_R → List va_E → Prop} (kk : ∀ w', LX w' → AW G fL_law kc ks w' 1556 [some (.float 0), some (.ref 0), some (.ref 12), some (.ref 30), some (.int (nI i)), none, none] [] Q) : AW G fL_law (kc + 40) (ks + 1000) w 227 [some (.float 0), some (.ref 0), some (.ref 12), some (.ref 30), some (.int (nI i)), none, none] [] Q := by
  obtain ⟨ow, tn, vn, an, R, vv, sc, ar, fo, hLI⟩ := id hX
  have h0 := hLI.2.1.1.choose_spec.choose_spec.choose_spec.choose_spec.choose_spec.choose_spec.choose_spec.1.1.2
  refine r_aload_n (pc := 227) dL_law_227 rfl rfl ?_
  refine s_L_103 (pc := 228) (kc' := kc + 20) (ks' := ks + 500) rfl rfl (ds_of (cd := cd1) hLI.1 (nx_error hLI)) h0 (Nat.le_of_ble_eq_true rfl) (Nat.le_of_ble_eq_true rfl) (by show kc + 20 + 0 ≤ kc + 40; omega) (by show ks + 500 + 0 ≤ ks + 1000; omega) (by exact (Nat.le_of_ble_eq_true rfl)) rfl (List.forall_mem_cons.mpr ⟨rfl, fun _ h => nomatch h⟩) rfl dL_law_228 (fun E w9 hq _ => by obtain ⟨v, z, -⟩ := hq; cases z) (fun r w9 hq _ => ?_)
  obtain ⟨v9, e9, ⟨fs9, h12⟩, hA⟩ := hq
  cases e9
  refine r_aload_n (pc := 231) dL_law_231 rfl rfl ?_
  refine s_L_106 (pc := 232) (kc' := kc + 10) (ks' := ks + 100) rfl rfl hA h12 (Nat.le_of_ble_eq_true rfl) (Nat.le_of_ble_eq_true rfl) (by show kc + 10 + 0 ≤ kc + 20; omega) (by show ks + 100 + 0 ≤ ks + 500; omega) (by exact (Nat.le_of_ble_eq_true rfl)) rfl (List.forall_mem_cons.mpr ⟨rfl, fun _ h => nomatch h⟩) rfl dL_law_232 (fun E w8 hq _ => by obtain ⟨z, -⟩ := hq; cases z) (fun r w8 hq _ => ?_)
  obtain ⟨e9, x9, hJ⟩ := hq
  cases e9
  refine r_icmp_eq (pc := 235) (tgt := 1556) dL_law_235 (by decide) (fun h235 => ?_) (fun h => absurd rfl h)
  refine AW_weak (kc' := kc) (ks' := ks) (by omega) (by omega) (fun _ _ z => z) ?_
  exact kk _ (LJ_X hJ)
set_option maxRecDepth 100000 in
set_option maxHeartbeats 4000000 in
theorem lc_3 {G : aw_G} (hN : aw_nc G) {w : List va_E} (hX : LX w) {i kc ks : Nat} (hi : i + 4 ≤ G.2.2.2.2.2.2.2.1) (hL9 : G.2.2.2.2.2.2.2.1 ≤ 2048) {Q : aw_R → List va_E → Prop} (kk : ∀ w', LX w' → AW G fL_law kc ks w' 1556 [some (.float 0), some (.ref 0), some (.ref 12), some (.ref 30), some (.int (nI i)), none, none] [] Q) : AW G fL_law (kc + 40) (ks + 1000) w 240 [some (.float 0), some (.ref 0), some (.ref 12), some (.ref 30), some (.int (nI i)), none, none] [] Q := by
  obtain ⟨ow, tn, vn, an, R, vv, sc, ar, fo, hLI⟩ := id hX
  have h0 := hLI.2.1.1.choose_spec.choose_spec.choose_spec.choose_spec.choose_spec.choose_spec.choose_spec.1.1.2
  refine r_aload_n (pc := 240) dL_law_240 rfl rfl ?_
  refine r_aload_n (pc := 241) dL_law_241 rfl rfl ?_
  refine r_callSH (pc := 242) (n := 2) (kc' := kc + 20) (ks' := ks + 500) (rest := []) (cs_of hLI.1 (by decide +kernel) (al_typeOfText hN h0 (nx_typeOfText hLI) (lE_of hLI.1))) rfl rfl kwL_typeOfText tw_51 tw_326 tw_327 ⟨(by decide : yL_typeOfText.cls ≠ "java/lang/invoke/MethodHandle"), (by decide : yL_typeOfText.cls ≠ "java/lang/invoke/VarHandle")⟩ (by decide +kernel : (parseMethodDescriptor yL_typeOfText.desc).map (fun d => d.parameters.length) = some 2) (Nat.le_of_ble_eq_true rfl) (Nat.le_of_ble_eq_true rfl) (by show kc + 20 + 7 ≤ kc + 40; omega) (by show ks + 500 + 370 ≤ ks + 1000; omega) (by exact (Nat.le_of_ble_eq_true rfl)) rfl (List.forall_mem_cons.mpr ⟨rfl, (List.forall_mem_cons.mpr ⟨rfl, fun _ h => nomatch h⟩)⟩) rfl dL_law_242 (fun E w9 hq _ => by obtain ⟨c, z, -⟩ := hq; cases z) (fun r w9 hq _ => ?_)
  obtain ⟨c9, e9, ⟨fs9, h12⟩, hA⟩ := hq
  cases e9
  refine r_istore (pc := 245) dL_law_245 (Nat.le_of_ble_eq_true rfl) rfl ?_
  refine r_aload_n (pc := 247) dL_law_247 rfl rfl ?_
  refine s_L_110 (pc := 248) (kc' := kc + 10) (ks' := ks + 100) rfl rfl hA h12 (Nat.le_of_ble_eq_true rfl) (Nat.le_of_ble_eq_true rfl) (by show kc + 10 + 0 ≤ kc + 20; omega) (by show ks + 100 + 0 ≤ ks + 500; omega) (by exact (Nat.le_of_ble_eq_true rfl)) rfl (List.forall_mem_cons.mpr ⟨rfl, fun _ h => nomatch h⟩) rfl dL_law_248 (fun E w8 hq _ => by obtain ⟨b, z, -⟩ := hq; cases z) (fun r w8 hq _ => ?_)
  obtain ⟨b9, e9, hJ⟩ := hq
  cases e9
  obtain ⟨f9, h30, hf9⟩ := LJ_30 hJ
  obtain ⟨fs8, h12⟩ := LJ_12 hJ
  refine r_istore (pc := 251) dL_law_251 (Nat.le_of_ble_eq_true rfl) rfl ?_
  refine r_aload_n (pc := 253) dL_law_253 rfl rfl ?_
  refine s_L_96 (pc := 254) (kc' := kc) (ks' := ks) rfl rfl (LJ_thr hJ) h12 (Nat.le_of_ble_eq_true rfl) (Nat.le_of_ble_eq_true rfl) (by show kc + 0 ≤ kc + 10; omega) (by show ks + 0 ≤ ks + 100; omega) (by exact (Nat.le_of_ble_eq_true rfl)) rfl (List.forall_mem_cons.mpr ⟨rfl, fun _ h => nomatch h⟩) rfl dL_law_254 aw_kt (aw_kq ?_)
  refine r_iload (pc := 257) dL_law_257 rfl ?_
  refine r_icmp_eq (pc := 259) (tgt := 264) dL_law_259 (by decide) (fun h259 => ?_) (fun h => absurd rfl h)
  refine r_iload (pc := 264) dL_law_264 rfl ?_
  refine r_if_ne (pc := 266) (tgt := 281) dL_law_266 (by decide) (fun h266 => ?_) (fun h266 => ?_)
  · refine r_goto (pc := 281) (tgt := 1556) dL_law_281 (by decide) ?_
    refine AW_weak (kc' := kc) (ks' := ks) (by omega) (by omega) (fun _ _ z => z) ?_
    refine AW_drop 6 rfl ?_
    refine AW_drop 5 rfl ?_
    exact kk _ (LJ_X hJ)
  · refine r_aload_n (pc := 269) dL_law_269 rfl rfl ?_
    refine r_iconst (pc := 270) (v := 0) dL_law_270 (by decide) ?_
    refine r_laload (pc := 271) h30 (vp_in_nI (n := 0) (N := 1) (by decide) (by decide)) dL_law_271 ?_
    rw [show f9 (Int32.toNatClampNeg 0) = vlI b9 from hf9 h266]
    refine r_iload (pc := 272) dL_law_272 rfl ?_
    refine r_i2l (pc := 274) dL_law_274 ?_
    rw [show vlI b9 = b9.toInt64 from rfl]
    refine r_lcmp (pc := 275) dL_law_275 ?_
    rw [lg_same]
    refine r_if_eq (pc := 276) (tgt := 281) dL_law_276 (by decide) (fun h276 => ?_) (fun h => absurd rfl h)
    refine r_goto (pc := 281) (tgt := 1556) dL_law_281 (by decide) ?_
    refine AW_weak (kc' := kc) (ks' := ks) (by omega) (by omega) (fun _ _ z => z) ?_
    refine AW_drop 6 rfl ?_
    refine AW_drop 5 rfl ?_
    exact kk _ (LJ_X hJ)
set_option maxRecDepth 100000 in
set_option maxHeartbeats 4000000 in
theorem lc_4 {G : aw_G} (hN : aw_nc G) {w : List va_E} (hX : LX w) {i kc ks : Nat} (hi : i + 4 ≤ G.2.2.2.2.2.2.2.1) (hL9 : G.2.2.2.2.2.2.2.1 ≤ 2048) {Q : aw_R → List va_E → Prop} (kk : ∀ w', LX w' → AW G fL_law kc ks w' 1556 [some (.float 0), some (.ref 0), some (.ref 12), some (.ref 30), some (.int (nI i)), none, none] [] Q) : AW G fL_law (kc + 40) (ks + 1000) w 284 [some (.float 0), some (.ref 0), some (.ref 12), some (.ref 30), some (.int (nI i)), none, none] [] Q := by
  obtain ⟨ow, tn, vn, an, R, vv, sc, ar, fo, hLI⟩ := id hX
  have h0 := hLI.2.1.1.choose_spec.choose_spec.choose_spec.choose_spec.choose_spec.choose_spec.choose_spec.1.1.2
  refine r_aload_n (pc := 284) dL_law_284 rfl rfl ?_
  refine r_aload_nX (pc := 285) dL_law_285 rfl rfl ?_
  refine r_iload (pc := 286) dL_law_286 rfl ?_
  refine r_iconst (pc := 288) (v := 1) dL_law_288 (by decide) ?_
  refine r_iadd (pc := 289) dL_law_289 ?_
  rw [show nI i + 1 = nI (i + 1) from nI_add i 1]
  refine r_sld (pc := 290) (vp_in_nI (by omega) (by omega)) dL_law_290 ?_
  refine r_aload_nX (pc := 291) dL_law_291 rfl rfl ?_
  refine r_iload (pc := 292) dL_law_292 rfl ?_
  refine r_iconst (pc := 294) (v := 2) dL_law_294 (by decide) ?_
  refine r_iadd (pc := 295) dL_law_295 ?_
  rw [show nI i + 2 = nI (i + 2) from nI_add i 2]
  refine r_sld (pc := 296) (vp_in_nI (by omega) (by omega)) dL_law_296 ?_
  refine r_aload_n (pc := 297) dL_law_297 rfl rfl ?_
  refine r_callSH (pc := 298) (n := 4) (kc' := kc + 20) (ks' := ks + 500) (rest := []) (cs_of hLI.1 (by decide +kernel) (al_setType hN h0 (nx_setType hLI _ _) (lE_of hLI.1))) rfl rfl kwL_setType tw_51 tw_428 tw_429 ⟨(by decide : yL_setType.cls ≠ "java/lang/invoke/MethodHandle"), (by decide : yL_setType.cls ≠ "java/lang/invoke/VarHandle")⟩ (by decide +kernel : (parseMethodDescriptor yL_setType.desc).map (fun d => d.parameters.length) = some 4) (Nat.le_of_ble_eq_true rfl) (Nat.le_of_ble_eq_true rfl) (by show kc + 20 + 2 ≤ kc + 40; omega) (by show ks + 500 + 12 ≤ ks + 1000; omega) (by exact (Nat.le_of_ble_eq_true rfl)) rfl (List.forall_mem_cons.mpr ⟨rfl, (List.forall_mem_cons.mpr ⟨rfl, (List.forall_mem_cons.mpr ⟨rfl, (List.forall_mem_cons.mpr ⟨rfl, fun _ h => nomatch h⟩)⟩)⟩)⟩) rfl dL_law_298 (fun E w9 hq _ => by obtain ⟨c, z, -⟩ := hq; cases z) (fun r w9 hq _ => ?_)
  obtain ⟨c9, e9, ⟨fs9, h12⟩, hA⟩ := hq
  cases e9
  refine r_istore (pc := 301) dL_law_301 (Nat.le_of_ble_eq_true rfl) rfl ?_
  refine r_aload_n (pc := 303) dL_law_303 rfl rfl ?_
  refine r_aload_nX (pc := 304) dL_law_304 rfl rfl ?_
  refine r_iload (pc := 305) dL_law_305 rfl ?_
  refine r_iconst (pc := 307) (v := 1) dL_law_307 (by decide) ?_
  refine r_iadd (pc := 308) dL_law_308 ?_
  rw [show nI i + 1 = nI (i + 1) from nI_add i 1]
  refine r_sld (pc := 309) (vp_in_nI (by omega) (by omega)) dL_law_309 ?_
  refine r_aload_nX (pc := 310) dL_law_310 rfl rfl ?_
  refine r_iload (pc := 311) dL_law_311 rfl ?_
  refine r_iconst (pc := 313) (v := 2) dL_law_313 (by decide) ?_
  refine r_iadd (pc := 314) dL_law_314 ?_
  rw [show nI i + 2 = nI (i + 2) from nI_add i 2]
  refine r_sld (pc := 315) (vp_in_nI (by omega) (by omega)) dL_law_315 ?_
  refine s_L_114 (pc := 316) (kc' := kc + 10) (ks' := ks + 100) rfl rfl hA h12 (Nat.le_of_ble_eq_true rfl) (Nat.le_of_ble_eq_true rfl) (by show kc + 10 + 0 ≤ kc + 20; omega) (by show ks + 100 + 0 ≤ ks + 500; omega) (by exact (Nat.le_of_ble_eq_true rfl)) rfl (List.forall_mem_cons.mpr ⟨rfl, (List.forall_mem_cons.mpr ⟨rfl, (List.forall_mem_cons.mpr ⟨rfl, fun _ h => nomatch h⟩)⟩)⟩) rfl dL_law_316 (fun E w8 hq _ => by obtain ⟨b, z, -⟩ := hq; cases z) (fun r w8 hq _ => ?_)
  obtain ⟨b9, e9, hJ⟩ := hq
  cases e9
  obtain ⟨f9, h30, hf9⟩ := LJ_30 hJ
  obtain ⟨fs8, h12⟩ := LJ_12 hJ
  refine r_istore (pc := 319) dL_law_319 (Nat.le_of_ble_eq_true rfl) rfl ?_
  refine r_aload_n (pc := 321) dL_law_321 rfl rfl ?_
  refine s_L_96 (pc := 322) (kc' := kc) (ks' := ks) rfl rfl (LJ_thr hJ) h12 (Nat.le_of_ble_eq_true rfl) (Nat.le_of_ble_eq_true rfl) (by show kc + 0 ≤ kc + 10; omega) (by show ks + 0 ≤ ks + 100; omega) (by exact (Nat.le_of_ble_eq_true rfl)) rfl (List.forall_mem_cons.mpr ⟨rfl, fun _ h => nomatch h⟩) rfl dL_law_322 aw_kt (aw_kq ?_)
  refine r_iload (pc := 325) dL_law_325 rfl ?_
  refine r_icmp_eq (pc := 327) (tgt := 332) dL_law_327 (by decide) (fun h327 => ?_) (fun h => absurd rfl h)
  refine r_iload (pc := 332) dL_law_332 rfl ?_
  refine r_if_ne (pc := 334) (tgt := 349) dL_law_334 (by decide) (fun h334 => ?_) (fun h334 => ?_)
  · refine r_goto (pc := 349) (tgt := 1556) dL_law_349 (by decide) ?_
    refine AW_weak (kc' := kc) (ks' := ks) (by omega) (by omega) (fun _ _ z => z) ?_
    refine AW_drop 6 rfl ?_
    refine AW_drop 5 rfl ?_
    exact kk _ (LJ_X hJ)
  · refine r_aload_n (pc := 337) dL_law_337 rfl rfl ?_
    refine r_iconst (pc := 338) (v := 0) dL_law_338 (by decide) ?_
    refine r_laload (pc := 339) h30 (vp_in_nI (n := 0) (N := 1) (by decide) (by decide)) dL_law_339 ?_
    rw [show f9 (Int32.toNatClampNeg 0) = vlI b9 from hf9 h334]
    refine r_iload (pc := 340) dL_law_340 rfl ?_
    refine r_i2l (pc := 342) dL_law_342 ?_
    rw [show vlI b9 = b9.toInt64 from rfl]
    refine r_lcmp (pc := 343) dL_law_343 ?_
    rw [lg_same]
    refine r_if_eq (pc := 344) (tgt := 349) dL_law_344 (by decide) (fun h344 => ?_) (fun h => absurd rfl h)
    refine r_goto (pc := 349) (tgt := 1556) dL_law_349 (by decide) ?_
    refine AW_weak (kc' := kc) (ks' := ks) (by omega) (by omega) (fun _ _ z => z) ?_
    refine AW_drop 6 rfl ?_
    refine AW_drop 5 rfl ?_
    exact kk _ (LJ_X hJ)
set_option maxRecDepth 100000 in
set_option maxHeartbeats 4000000 in
theorem lc_5 {G : aw_G} (hN : aw_nc G) {w : List va_E} (hX : LX w) {i kc ks : Nat} (hi : i + 4 ≤ G.2.2.2.2.2.2.2.1) (hL9 : G.2.2.2.2.2.2.2.1 ≤ 2048) {Q : aw_R → List va_E → Prop} (kk : ∀ w', LX w' → AW G fL_law kc ks w' 1556 [some (.float 0), some (.ref 0), some (.ref 12), some (.ref 30), some (.int (nI i)), none, none] [] Q) : AW G fL_law (kc + 40) (ks + 1000) w 352 [some (.float 0), some (.ref 0), some (.ref 12), some (.ref 30), some (.int (nI i)), none, none] [] Q := by
  obtain ⟨ow, tn, vn, an, R, vv, sc, ar, fo, hLI⟩ := id hX
  have h0 := hLI.2.1.1.choose_spec.choose_spec.choose_spec.choose_spec.choose_spec.choose_spec.choose_spec.1.1.2
  refine r_aload_n (pc := 352) dL_law_352 rfl rfl ?_
  refine r_aload_nX (pc := 353) dL_law_353 rfl rfl ?_
  refine r_iload (pc := 354) dL_law_354 rfl ?_
  refine r_iconst (pc := 356) (v := 1) dL_law_356 (by decide) ?_
  refine r_iadd (pc := 357) dL_law_357 ?_
  rw [show nI i + 1 = nI (i + 1) from nI_add i 1]
  refine r_sld (pc := 358) (vp_in_nI (by omega) (by omega)) dL_law_358 ?_
  refine r_aload_n (pc := 359) dL_law_359 rfl rfl ?_
  refine r_callSH (pc := 360) (n := 3) (kc' := kc + 20) (ks' := ks + 500) (rest := []) (cs_of hLI.1 (by decide +kernel) (al_setFormula hN h0 (nx_setFormula hLI _) (lE_of hLI.1))) rfl rfl kwL_setFormula tw_51 tw_498 tw_499 ⟨(by decide : yL_setFormula.cls ≠ "java/lang/invoke/MethodHandle"), (by decide : yL_setFormula.cls ≠ "java/lang/invoke/VarHandle")⟩ (by decide +kernel : (parseMethodDescriptor yL_setFormula.desc).map (fun d => d.parameters.length) = some 3) (Nat.le_of_ble_eq_true rfl) (Nat.le_of_ble_eq_true rfl) (by show kc + 20 + 10 ≤ kc + 40; omega) (by show ks + 500 + 388 ≤ ks + 1000; omega) (by exact (Nat.le_of_ble_eq_true rfl)) rfl (List.forall_mem_cons.mpr ⟨rfl, (List.forall_mem_cons.mpr ⟨rfl, (List.forall_mem_cons.mpr ⟨rfl, fun _ h => nomatch h⟩)⟩)⟩) rfl dL_law_360 (fun E w9 hq _ => by obtain ⟨c, z, -⟩ := hq; cases z) (fun r w9 hq _ => ?_)
  obtain ⟨c9, e9, ⟨fs9, h12⟩, hA⟩ := hq
  cases e9
  refine r_istore (pc := 363) dL_law_363 (Nat.le_of_ble_eq_true rfl) rfl ?_
  refine r_aload_n (pc := 365) dL_law_365 rfl rfl ?_
  refine r_aload_nX (pc := 366) dL_law_366 rfl rfl ?_
  refine r_iload (pc := 367) dL_law_367 rfl ?_
  refine r_iconst (pc := 369) (v := 1) dL_law_369 (by decide) ?_
  refine r_iadd (pc := 370) dL_law_370 ?_
  rw [show nI i + 1 = nI (i + 1) from nI_add i 1]
  refine r_sld (pc := 371) (vp_in_nI (by omega) (by omega)) dL_law_371 ?_
  refine s_L_118 (pc := 372) (kc' := kc + 10) (ks' := ks + 100) rfl rfl hA h12 (Nat.le_of_ble_eq_true rfl) (Nat.le_of_ble_eq_true rfl) (by show kc + 10 + 0 ≤ kc + 20; omega) (by show ks + 100 + 0 ≤ ks + 500; omega) (by exact (Nat.le_of_ble_eq_true rfl)) rfl (List.forall_mem_cons.mpr ⟨rfl, (List.forall_mem_cons.mpr ⟨rfl, fun _ h => nomatch h⟩)⟩) rfl dL_law_372 (fun E w8 hq _ => by obtain ⟨b, z, -⟩ := hq; cases z) (fun r w8 hq _ => ?_)
  obtain ⟨b9, e9, hJ⟩ := hq
  cases e9
  obtain ⟨f9, h30, hf9⟩ := LJ_30 hJ
  obtain ⟨fs8, h12⟩ := LJ_12 hJ
  refine r_istore (pc := 375) dL_law_375 (Nat.le_of_ble_eq_true rfl) rfl ?_
  refine r_aload_n (pc := 377) dL_law_377 rfl rfl ?_
  refine s_L_96 (pc := 378) (kc' := kc) (ks' := ks) rfl rfl (LJ_thr hJ) h12 (Nat.le_of_ble_eq_true rfl) (Nat.le_of_ble_eq_true rfl) (by show kc + 0 ≤ kc + 10; omega) (by show ks + 0 ≤ ks + 100; omega) (by exact (Nat.le_of_ble_eq_true rfl)) rfl (List.forall_mem_cons.mpr ⟨rfl, fun _ h => nomatch h⟩) rfl dL_law_378 aw_kt (aw_kq ?_)
  refine r_iload (pc := 381) dL_law_381 rfl ?_
  refine r_icmp_eq (pc := 383) (tgt := 388) dL_law_383 (by decide) (fun h383 => ?_) (fun h => absurd rfl h)
  refine r_iload (pc := 388) dL_law_388 rfl ?_
  refine r_if_ne (pc := 390) (tgt := 405) dL_law_390 (by decide) (fun h390 => ?_) (fun h390 => ?_)
  · refine r_goto (pc := 405) (tgt := 1556) dL_law_405 (by decide) ?_
    refine AW_weak (kc' := kc) (ks' := ks) (by omega) (by omega) (fun _ _ z => z) ?_
    refine AW_drop 6 rfl ?_
    refine AW_drop 5 rfl ?_
    exact kk _ (LJ_X hJ)
  · refine r_aload_n (pc := 393) dL_law_393 rfl rfl ?_
    refine r_iconst (pc := 394) (v := 0) dL_law_394 (by decide) ?_
    refine r_laload (pc := 395) h30 (vp_in_nI (n := 0) (N := 1) (by decide) (by decide)) dL_law_395 ?_
    rw [show f9 (Int32.toNatClampNeg 0) = vlI b9 from hf9 h390]
    refine r_iload (pc := 396) dL_law_396 rfl ?_
    refine r_i2l (pc := 398) dL_law_398 ?_
    rw [show vlI b9 = b9.toInt64 from rfl]
    refine r_lcmp (pc := 399) dL_law_399 ?_
    rw [lg_same]
    refine r_if_eq (pc := 400) (tgt := 405) dL_law_400 (by decide) (fun h400 => ?_) (fun h => absurd rfl h)
    refine r_goto (pc := 405) (tgt := 1556) dL_law_405 (by decide) ?_
    refine AW_weak (kc' := kc) (ks' := ks) (by omega) (by omega) (fun _ _ z => z) ?_
    refine AW_drop 6 rfl ?_
    refine AW_drop 5 rfl ?_
    exact kk _ (LJ_X hJ)
set_option maxRecDepth 100000 in
set_option maxHeartbeats 4000000 in
theorem lc_6 {G : aw_G} (hN : aw_nc G) {w : List va_E} (hX : LX w) {i kc ks : Nat} (hi : i + 4 ≤ G.2.2.2.2.2.2.2.1) (hL9 : G.2.2.2.2.2.2.2.1 ≤ 2048) {Q : aw_R → List va_E → Prop} (kk : ∀ w', LX w' → AW G fL_law kc ks w' 1556 [some (.float 0), some (.ref 0), some (.ref 12), some (.ref 30), some (.int (nI i)), none, none] [] Q) : AW G fL_law (kc + 40) (ks + 1000) w 408 [some (.float 0), some (.ref 0), some (.ref 12), some (.ref 30), some (.int (nI i)), none, none] [] Q := by
  obtain ⟨ow, tn, vn, an, R, vv, sc, ar, fo, hLI⟩ := id hX
  have h0 := hLI.2.1.1.choose_spec.choose_spec.choose_spec.choose_spec.choose_spec.choose_spec.choose_spec.1.1.2
  refine r_aload_n (pc := 408) dL_law_408 rfl rfl ?_
  refine r_aload_nX (pc := 409) dL_law_409 rfl rfl ?_
  refine r_iload (pc := 410) dL_law_410 rfl ?_
  refine r_iconst (pc := 412) (v := 1) dL_law_412 (by decide) ?_
  refine r_iadd (pc := 413) dL_law_413 ?_
  rw [show nI i + 1 = nI (i + 1) from nI_add i 1]
  refine r_sld (pc := 414) (vp_in_nI (by omega) (by omega)) dL_law_414 ?_
  refine r_aload_n (pc := 415) dL_law_415 rfl rfl ?_
  refine r_callSH (pc := 416) (n := 3) (kc' := kc + 20) (ks' := ks + 500) (rest := []) (cs_of hLI.1 (by decide +kernel) (al_dropFormula hN h0 (nx_dropFormula hLI _) (lE_of hLI.1))) rfl rfl kwL_dropFormula tw_51 tw_535 tw_536 ⟨(by decide : yL_dropFormula.cls ≠ "java/lang/invoke/MethodHandle"), (by decide : yL_dropFormula.cls ≠ "java/lang/invoke/VarHandle")⟩ (by decide +kernel : (parseMethodDescriptor yL_dropFormula.desc).map (fun d => d.parameters.length) = some 3) (Nat.le_of_ble_eq_true rfl) (Nat.le_of_ble_eq_true rfl) (by show kc + 20 + 1 ≤ kc + 40; omega) (by show ks + 500 + 6 ≤ ks + 1000; omega) (by exact (Nat.le_of_ble_eq_true rfl)) rfl (List.forall_mem_cons.mpr ⟨rfl, (List.forall_mem_cons.mpr ⟨rfl, (List.forall_mem_cons.mpr ⟨rfl, fun _ h => nomatch h⟩)⟩)⟩) rfl dL_law_416 (fun E w9 hq _ => by obtain ⟨c, z, -⟩ := hq; cases z) (fun r w9 hq _ => ?_)
  obtain ⟨c9, e9, ⟨fs9, h12⟩, hA⟩ := hq
  cases e9
  refine r_istore (pc := 419) dL_law_419 (Nat.le_of_ble_eq_true rfl) rfl ?_
  refine r_aload_n (pc := 421) dL_law_421 rfl rfl ?_
  refine r_aload_nX (pc := 422) dL_law_422 rfl rfl ?_
  refine r_iload (pc := 423) dL_law_423 rfl ?_
  refine r_iconst (pc := 425) (v := 1) dL_law_425 (by decide) ?_
  refine r_iadd (pc := 426) dL_law_426 ?_
  rw [show nI i + 1 = nI (i + 1) from nI_add i 1]
  refine r_sld (pc := 427) (vp_in_nI (by omega) (by omega)) dL_law_427 ?_
  refine s_L_121 (pc := 428) (kc' := kc + 10) (ks' := ks + 100) rfl rfl hA h12 (Nat.le_of_ble_eq_true rfl) (Nat.le_of_ble_eq_true rfl) (by show kc + 10 + 0 ≤ kc + 20; omega) (by show ks + 100 + 0 ≤ ks + 500; omega) (by exact (Nat.le_of_ble_eq_true rfl)) rfl (List.forall_mem_cons.mpr ⟨rfl, (List.forall_mem_cons.mpr ⟨rfl, fun _ h => nomatch h⟩)⟩) rfl dL_law_428 (fun E w8 hq _ => by obtain ⟨b, z, -⟩ := hq; cases z) (fun r w8 hq _ => ?_)
  obtain ⟨b9, e9, hJ⟩ := hq
  cases e9
  obtain ⟨f9, h30, hf9⟩ := LJ_30 hJ
  obtain ⟨fs8, h12⟩ := LJ_12 hJ
  refine r_istore (pc := 431) dL_law_431 (Nat.le_of_ble_eq_true rfl) rfl ?_
  refine r_aload_n (pc := 433) dL_law_433 rfl rfl ?_
  refine s_L_96 (pc := 434) (kc' := kc) (ks' := ks) rfl rfl (LJ_thr hJ) h12 (Nat.le_of_ble_eq_true rfl) (Nat.le_of_ble_eq_true rfl) (by show kc + 0 ≤ kc + 10; omega) (by show ks + 0 ≤ ks + 100; omega) (by exact (Nat.le_of_ble_eq_true rfl)) rfl (List.forall_mem_cons.mpr ⟨rfl, fun _ h => nomatch h⟩) rfl dL_law_434 aw_kt (aw_kq ?_)
  refine r_iload (pc := 437) dL_law_437 rfl ?_
  refine r_icmp_eq (pc := 439) (tgt := 444) dL_law_439 (by decide) (fun h439 => ?_) (fun h => absurd rfl h)
  refine r_iload (pc := 444) dL_law_444 rfl ?_
  refine r_if_ne (pc := 446) (tgt := 468) dL_law_446 (by decide) (fun h446 => ?_) (fun h446 => ?_)
  · refine r_goto (pc := 468) (tgt := 1556) dL_law_468 (by decide) ?_
    refine AW_weak (kc' := kc) (ks' := ks) (by omega) (by omega) (fun _ _ z => z) ?_
    refine AW_drop 6 rfl ?_
    refine AW_drop 5 rfl ?_
    exact kk _ (LJ_X hJ)
  · refine r_aload_n (pc := 449) dL_law_449 rfl rfl ?_
    refine r_iconst (pc := 450) (v := 0) dL_law_450 (by decide) ?_
    refine r_laload (pc := 451) h30 (vp_in_nI (n := 0) (N := 1) (by decide) (by decide)) dL_law_451 ?_
    rw [show f9 (Int32.toNatClampNeg 0) = vlB b9 from hf9 h446]
    refine r_iload (pc := 452) dL_law_452 rfl ?_
    refine r_if_eq (pc := 454) (tgt := 461) dL_law_454 (by decide) (fun h454 => ?_) (fun h454 => ?_)
    · refine r_lconst (pc := 461) (v := 0) dL_law_461 rfl ?_
      rw [show vlB b9 = 0 from if_pos h454]
      refine r_lcmp (pc := 462) dL_law_462 ?_
      rw [lg_same]
      refine r_if_eq (pc := 463) (tgt := 468) dL_law_463 (by decide) (fun h463 => ?_) (fun h => absurd rfl h)
      refine r_goto (pc := 468) (tgt := 1556) dL_law_468 (by decide) ?_
      refine AW_weak (kc' := kc) (ks' := ks) (by omega) (by omega) (fun _ _ z => z) ?_
      refine AW_drop 6 rfl ?_
      refine AW_drop 5 rfl ?_
      exact kk _ (LJ_X hJ)
    · refine r_lconst (pc := 457) (v := 1) dL_law_457 rfl ?_
      refine r_goto (pc := 458) (tgt := 462) dL_law_458 (by decide) ?_
      rw [show vlB b9 = 1 from if_neg h454]
      refine r_lcmp (pc := 462) dL_law_462 ?_
      rw [lg_same]
      refine r_if_eq (pc := 463) (tgt := 468) dL_law_463 (by decide) (fun h463 => ?_) (fun h => absurd rfl h)
      refine r_goto (pc := 468) (tgt := 1556) dL_law_468 (by decide) ?_
      refine AW_weak (kc' := kc) (ks' := ks) (by omega) (by omega) (fun _ _ z => z) ?_
      refine AW_drop 6 rfl ?_
      refine AW_drop 5 rfl ?_
      exact kk _ (LJ_X hJ)
set_option maxRecDepth 100000 in
set_option maxHeartbeats 4000000 in
theorem lc_7 {G : aw_G} (hN : aw_nc G) {w : List va_E} (hX : LX w) {i kc ks : Nat} (hi : i + 4 ≤ G.2.2.2.2.2.2.2.1) (hL9 : G.2.2.2.2.2.2.2.1 ≤ 2048) {Q : aw_R → List va_E → Prop} (kk : ∀ w', LX w' → AW G fL_law kc ks w' 1556 [some (.float 0), some (.ref 0), some (.ref 12), some (.ref 30), some (.int (nI i)), none, none] [] Q) : AW G fL_law (kc + 40) (ks + 1000) w 471 [some (.float 0), some (.ref 0), some (.ref 12), some (.ref 30), some (.int (nI i)), none, none] [] Q := by
  obtain ⟨ow, tn, vn, an, R, vv, sc, ar, fo, hLI⟩ := id hX
  have h0 := hLI.2.1.1.choose_spec.choose_spec.choose_spec.choose_spec.choose_spec.choose_spec.choose_spec.1.1.2
  refine r_aload_n (pc := 471) dL_law_471 rfl rfl ?_
  refine r_aload_nX (pc := 472) dL_law_472 rfl rfl ?_
  refine r_iload (pc := 473) dL_law_473 rfl ?_
  refine r_iconst (pc := 475) (v := 1) dL_law_475 (by decide) ?_
  refine r_iadd (pc := 476) dL_law_476 ?_
  rw [show nI i + 1 = nI (i + 1) from nI_add i 1]
  refine r_sld (pc := 477) (vp_in_nI (by omega) (by omega)) dL_law_477 ?_
  refine r_aload_n (pc := 478) dL_law_478 rfl rfl ?_
  refine r_callSH (pc := 479) (n := 3) (kc' := kc + 20) (ks' := ks + 500) (rest := []) (cs_of hLI.1 (by decide +kernel) (al_isBroken hN h0 (nx_isBroken hLI _) (lE_of hLI.1))) rfl rfl kwL_isBroken tw_51 tw_543 tw_544 ⟨(by decide : yL_isBroken.cls ≠ "java/lang/invoke/MethodHandle"), (by decide : yL_isBroken.cls ≠ "java/lang/invoke/VarHandle")⟩ (by decide +kernel : (parseMethodDescriptor yL_isBroken.desc).map (fun d => d.parameters.length) = some 3) (Nat.le_of_ble_eq_true rfl) (Nat.le_of_ble_eq_true rfl) (by show kc + 20 + 1 ≤ kc + 40; omega) (by show ks + 500 + 6 ≤ ks + 1000; omega) (by exact (Nat.le_of_ble_eq_true rfl)) rfl (List.forall_mem_cons.mpr ⟨rfl, (List.forall_mem_cons.mpr ⟨rfl, (List.forall_mem_cons.mpr ⟨rfl, fun _ h => nomatch h⟩)⟩)⟩) rfl dL_law_479 (fun E w9 hq _ => by obtain ⟨c, z, -⟩ := hq; cases z) (fun r w9 hq _ => ?_)
  obtain ⟨c9, e9, ⟨fs9, h12⟩, hA⟩ := hq
  cases e9
  refine r_istore (pc := 482) dL_law_482 (Nat.le_of_ble_eq_true rfl) rfl ?_
  refine r_aload_n (pc := 484) dL_law_484 rfl rfl ?_
  refine r_aload_nX (pc := 485) dL_law_485 rfl rfl ?_
  refine r_iload (pc := 486) dL_law_486 rfl ?_
  refine r_iconst (pc := 488) (v := 1) dL_law_488 (by decide) ?_
  refine r_iadd (pc := 489) dL_law_489 ?_
  rw [show nI i + 1 = nI (i + 1) from nI_add i 1]
  refine r_sld (pc := 490) (vp_in_nI (by omega) (by omega)) dL_law_490 ?_
  refine s_L_124 (pc := 491) (kc' := kc + 10) (ks' := ks + 100) rfl rfl hA h12 (Nat.le_of_ble_eq_true rfl) (Nat.le_of_ble_eq_true rfl) (by show kc + 10 + 0 ≤ kc + 20; omega) (by show ks + 100 + 0 ≤ ks + 500; omega) (by exact (Nat.le_of_ble_eq_true rfl)) rfl (List.forall_mem_cons.mpr ⟨rfl, (List.forall_mem_cons.mpr ⟨rfl, fun _ h => nomatch h⟩)⟩) rfl dL_law_491 (fun E w8 hq _ => by obtain ⟨b, z, -⟩ := hq; cases z) (fun r w8 hq _ => ?_)
  obtain ⟨b9, e9, hJ⟩ := hq
  cases e9
  obtain ⟨f9, h30, hf9⟩ := LJ_30 hJ
  obtain ⟨fs8, h12⟩ := LJ_12 hJ
  refine r_istore (pc := 494) dL_law_494 (Nat.le_of_ble_eq_true rfl) rfl ?_
  refine r_aload_n (pc := 496) dL_law_496 rfl rfl ?_
  refine s_L_96 (pc := 497) (kc' := kc) (ks' := ks) rfl rfl (LJ_thr hJ) h12 (Nat.le_of_ble_eq_true rfl) (Nat.le_of_ble_eq_true rfl) (by show kc + 0 ≤ kc + 10; omega) (by show ks + 0 ≤ ks + 100; omega) (by exact (Nat.le_of_ble_eq_true rfl)) rfl (List.forall_mem_cons.mpr ⟨rfl, fun _ h => nomatch h⟩) rfl dL_law_497 aw_kt (aw_kq ?_)
  refine r_iload (pc := 500) dL_law_500 rfl ?_
  refine r_icmp_eq (pc := 502) (tgt := 507) dL_law_502 (by decide) (fun h502 => ?_) (fun h => absurd rfl h)
  refine r_iload (pc := 507) dL_law_507 rfl ?_
  refine r_if_ne (pc := 509) (tgt := 531) dL_law_509 (by decide) (fun h509 => ?_) (fun h509 => ?_)
  · refine r_goto (pc := 531) (tgt := 1556) dL_law_531 (by decide) ?_
    refine AW_weak (kc' := kc) (ks' := ks) (by omega) (by omega) (fun _ _ z => z) ?_
    refine AW_drop 6 rfl ?_
    refine AW_drop 5 rfl ?_
    exact kk _ (LJ_X hJ)
  · refine r_aload_n (pc := 512) dL_law_512 rfl rfl ?_
    refine r_iconst (pc := 513) (v := 0) dL_law_513 (by decide) ?_
    refine r_laload (pc := 514) h30 (vp_in_nI (n := 0) (N := 1) (by decide) (by decide)) dL_law_514 ?_
    rw [show f9 (Int32.toNatClampNeg 0) = vlB b9 from hf9 h509]
    refine r_iload (pc := 515) dL_law_515 rfl ?_
    refine r_if_eq (pc := 517) (tgt := 524) dL_law_517 (by decide) (fun h517 => ?_) (fun h517 => ?_)
    · refine r_lconst (pc := 524) (v := 0) dL_law_524 rfl ?_
      rw [show vlB b9 = 0 from if_pos h517]
      refine r_lcmp (pc := 525) dL_law_525 ?_
      rw [lg_same]
      refine r_if_eq (pc := 526) (tgt := 531) dL_law_526 (by decide) (fun h526 => ?_) (fun h => absurd rfl h)
      refine r_goto (pc := 531) (tgt := 1556) dL_law_531 (by decide) ?_
      refine AW_weak (kc' := kc) (ks' := ks) (by omega) (by omega) (fun _ _ z => z) ?_
      refine AW_drop 6 rfl ?_
      refine AW_drop 5 rfl ?_
      exact kk _ (LJ_X hJ)
    · refine r_lconst (pc := 520) (v := 1) dL_law_520 rfl ?_
      refine r_goto (pc := 521) (tgt := 525) dL_law_521 (by decide) ?_
      rw [show vlB b9 = 1 from if_neg h517]
      refine r_lcmp (pc := 525) dL_law_525 ?_
      rw [lg_same]
      refine r_if_eq (pc := 526) (tgt := 531) dL_law_526 (by decide) (fun h526 => ?_) (fun h => absurd rfl h)
      refine r_goto (pc := 531) (tgt := 1556) dL_law_531 (by decide) ?_
      refine AW_weak (kc' := kc) (ks' := ks) (by omega) (by omega) (fun _ _ z => z) ?_
      refine AW_drop 6 rfl ?_
      refine AW_drop 5 rfl ?_
      exact kk _ (LJ_X hJ)
set_option maxRecDepth 100000 in
set_option maxHeartbeats 4000000 in
theorem lc_8 {G : aw_G} (hN : aw_nc G) {w : List va_E} (hX : LX w) {i kc ks : Nat} (hi : i + 4 ≤ G.2.2.2.2.2.2.2.1) (hL9 : G.2.2.2.2.2.2.2.1 ≤ 2048) {Q : aw_R → List va_E → Prop} (kk : ∀ w', LX w' → AW G fL_law kc ks w' 1556 [some (.float 0), some (.ref 0), some (.ref 12), some (.ref 30), some (.int (nI i)), none, none] [] Q) : AW G fL_law (kc + 40) (ks + 1000) w 534 [some (.float 0), some (.ref 0), some (.ref 12), some (.ref 30), some (.int (nI i)), none, none] [] Q := by
  obtain ⟨ow, tn, vn, an, R, vv, sc, ar, fo, hLI⟩ := id hX
  have h0 := hLI.2.1.1.choose_spec.choose_spec.choose_spec.choose_spec.choose_spec.choose_spec.choose_spec.1.1.2
  refine r_aload_n (pc := 534) dL_law_534 rfl rfl ?_
  refine r_aload_n (pc := 535) dL_law_535 rfl rfl ?_
  refine r_callSH (pc := 536) (n := 2) (kc' := kc + 20) (ks' := ks + 500) (rest := []) (cs_of hLI.1 (by decide +kernel) (al_publish hN h0 (nx_publish hLI) (lE_of hLI.1))) rfl rfl kwL_publish tw_51 tw_551 tw_552 ⟨(by decide : yL_publish.cls ≠ "java/lang/invoke/MethodHandle"), (by decide : yL_publish.cls ≠ "java/lang/invoke/VarHandle")⟩ (by decide +kernel : (parseMethodDescriptor yL_publish.desc).map (fun d => d.parameters.length) = some 2) (Nat.le_of_ble_eq_true rfl) (Nat.le_of_ble_eq_true rfl) (by show kc + 20 + 7 ≤ kc + 40; omega) (by show ks + 500 + 116 ≤ ks + 1000; omega) (by exact (Nat.le_of_ble_eq_true rfl)) rfl (List.forall_mem_cons.mpr ⟨rfl, (List.forall_mem_cons.mpr ⟨rfl, fun _ h => nomatch h⟩)⟩) rfl dL_law_536 (fun E w9 hq _ => by obtain ⟨c, z, -⟩ := hq; cases z) (fun r w9 hq _ => ?_)
  obtain ⟨c9, e9, ⟨fs9, h12⟩, hA⟩ := hq
  cases e9
  refine r_istore (pc := 539) dL_law_539 (Nat.le_of_ble_eq_true rfl) rfl ?_
  refine r_aload_n (pc := 541) dL_law_541 rfl rfl ?_
  refine s_L_127 (pc := 542) (kc' := kc + 10) (ks' := ks + 100) rfl rfl hA h12 (Nat.le_of_ble_eq_true rfl) (Nat.le_of_ble_eq_true rfl) (by show kc + 10 + 0 ≤ kc + 20; omega) (by show ks + 100 + 0 ≤ ks + 500; omega) (by exact (Nat.le_of_ble_eq_true rfl)) rfl (List.forall_mem_cons.mpr ⟨rfl, fun _ h => nomatch h⟩) rfl dL_law_542 (fun E w8 hq _ => by obtain ⟨b, z, -⟩ := hq; cases z) (fun r w8 hq _ => ?_)
  obtain ⟨b9, e9, hJ⟩ := hq
  cases e9
  obtain ⟨f9, h30, hf9⟩ := LJ_30 hJ
  obtain ⟨fs8, h12⟩ := LJ_12 hJ
  refine r_istore (pc := 545) dL_law_545 (Nat.le_of_ble_eq_true rfl) rfl ?_
  refine r_aload_n (pc := 547) dL_law_547 rfl rfl ?_
  refine s_L_96 (pc := 548) (kc' := kc) (ks' := ks) rfl rfl (LJ_thr hJ) h12 (Nat.le_of_ble_eq_true rfl) (Nat.le_of_ble_eq_true rfl) (by show kc + 0 ≤ kc + 10; omega) (by show ks + 0 ≤ ks + 100; omega) (by exact (Nat.le_of_ble_eq_true rfl)) rfl (List.forall_mem_cons.mpr ⟨rfl, fun _ h => nomatch h⟩) rfl dL_law_548 aw_kt (aw_kq ?_)
  refine r_iload (pc := 551) dL_law_551 rfl ?_
  refine r_icmp_eq (pc := 553) (tgt := 558) dL_law_553 (by decide) (fun h553 => ?_) (fun h => absurd rfl h)
  refine r_iload (pc := 558) dL_law_558 rfl ?_
  refine r_if_ne (pc := 560) (tgt := 575) dL_law_560 (by decide) (fun h560 => ?_) (fun h560 => ?_)
  · refine r_goto (pc := 575) (tgt := 1556) dL_law_575 (by decide) ?_
    refine AW_weak (kc' := kc) (ks' := ks) (by omega) (by omega) (fun _ _ z => z) ?_
    refine AW_drop 6 rfl ?_
    refine AW_drop 5 rfl ?_
    exact kk _ (LJ_X hJ)
  · refine r_aload_n (pc := 563) dL_law_563 rfl rfl ?_
    refine r_iconst (pc := 564) (v := 0) dL_law_564 (by decide) ?_
    refine r_laload (pc := 565) h30 (vp_in_nI (n := 0) (N := 1) (by decide) (by decide)) dL_law_565 ?_
    rw [show f9 (Int32.toNatClampNeg 0) = vlI b9 from hf9 h560]
    refine r_iload (pc := 566) dL_law_566 rfl ?_
    refine r_i2l (pc := 568) dL_law_568 ?_
    rw [show vlI b9 = b9.toInt64 from rfl]
    refine r_lcmp (pc := 569) dL_law_569 ?_
    rw [lg_same]
    refine r_if_eq (pc := 570) (tgt := 575) dL_law_570 (by decide) (fun h570 => ?_) (fun h => absurd rfl h)
    refine r_goto (pc := 575) (tgt := 1556) dL_law_575 (by decide) ?_
    refine AW_weak (kc' := kc) (ks' := ks) (by omega) (by omega) (fun _ _ z => z) ?_
    refine AW_drop 6 rfl ?_
    refine AW_drop 5 rfl ?_
    exact kk _ (LJ_X hJ)
set_option maxRecDepth 100000 in
set_option maxHeartbeats 4000000 in
theorem lc_9 {G : aw_G} (hN : aw_nc G) {w : List va_E} (hX : LX w) {i kc ks : Nat} (hi : i + 4 ≤ G.2.2.2.2.2.2.2.1) (hL9 : G.2.2.2.2.2.2.2.1 ≤ 2048) {Q : aw_R → List va_E → Prop} (kk : ∀ w', LX w' → AW G fL_law kc ks w' 1556 [some (.float 0), some (.ref 0), some (.ref 12), some (.ref 30), some (.int (nI i)), none, none] [] Q) : AW G fL_law (kc + 40) (ks + 1000) w 578 [some (.float 0), some (.ref 0), some (.ref 12), some (.ref 30), some (.int (nI i)), none, none] [] Q := by
  obtain ⟨ow, tn, vn, an, R, vv, sc, ar, fo, hLI⟩ := id hX
  have h0 := hLI.2.1.1.choose_spec.choose_spec.choose_spec.choose_spec.choose_spec.choose_spec.choose_spec.1.1.2
  refine r_aload_n (pc := 578) dL_law_578 rfl rfl ?_
  refine s_L_128 (pc := 579) (kc' := kc + 20) (ks' := ks + 500) rfl rfl (ds_of (cd := cd1) hLI.1 (nx_versions hLI)) h0 (Nat.le_of_ble_eq_true rfl) (Nat.le_of_ble_eq_true rfl) (by show kc + 20 + 0 ≤ kc + 40; omega) (by show ks + 500 + 0 ≤ ks + 1000; omega) (by exact (Nat.le_of_ble_eq_true rfl)) rfl (List.forall_mem_cons.mpr ⟨rfl, fun _ h => nomatch h⟩) rfl dL_law_579 (fun E w9 hq _ => by obtain ⟨v, z, -⟩ := hq; cases z) (fun r w9 hq _ => ?_)
  obtain ⟨v9, e9, ⟨fs9, h12⟩, hA⟩ := hq
  cases e9
  refine r_aload_n (pc := 582) dL_law_582 rfl rfl ?_
  refine s_L_131 (pc := 583) (kc' := kc + 10) (ks' := ks + 100) rfl rfl hA h12 (Nat.le_of_ble_eq_true rfl) (Nat.le_of_ble_eq_true rfl) (by show kc + 10 + 0 ≤ kc + 20; omega) (by show ks + 100 + 0 ≤ ks + 500; omega) (by exact (Nat.le_of_ble_eq_true rfl)) rfl (List.forall_mem_cons.mpr ⟨rfl, fun _ h => nomatch h⟩) rfl dL_law_583 (fun E w8 hq _ => by obtain ⟨z, -⟩ := hq; cases z) (fun r w8 hq _ => ?_)
  obtain ⟨e9, x9, hJ⟩ := hq
  cases e9
  refine r_icmp_eq (pc := 586) (tgt := 1556) dL_law_586 (by decide) (fun h586 => ?_) (fun h => absurd rfl h)
  refine AW_weak (kc' := kc) (ks' := ks) (by omega) (by omega) (fun _ _ z => z) ?_
  exact kk _ (LJ_X hJ)
set_option maxRecDepth 100000 in
set_option maxHeartbeats 4000000 in
theorem lc_10 {G : aw_G} (hN : aw_nc G) {w : List va_E} (hX : LX w) {i kc ks : Nat} (hi : i + 4 ≤ G.2.2.2.2.2.2.2.1) (hL9 : G.2.2.2.2.2.2.2.1 ≤ 2048) {Q : aw_R → List va_E → Prop} (kk : ∀ w', LX w' → AW G fL_law kc ks w' 1556 [some (.float 0), some (.ref 0), some (.ref 12), some (.ref 30), some (.int (nI i)), none, none] [] Q) : AW G fL_law (kc + 40) (ks + 1000) w 591 [some (.float 0), some (.ref 0), some (.ref 12), some (.ref 30), some (.int (nI i)), none, none] [] Q := by
  obtain ⟨ow, tn, vn, an, R, vv, sc, ar, fo, hLI⟩ := id hX
  have h0 := hLI.2.1.1.choose_spec.choose_spec.choose_spec.choose_spec.choose_spec.choose_spec.choose_spec.1.1.2
  refine r_aload_n (pc := 591) dL_law_591 rfl rfl ?_
  refine r_aload_nX (pc := 592) dL_law_592 rfl rfl ?_
  refine r_iload (pc := 593) dL_law_593 rfl ?_
  refine r_iconst (pc := 595) (v := 1) dL_law_595 (by decide) ?_
  refine r_iadd (pc := 596) dL_law_596 ?_
  rw [show nI i + 1 = nI (i + 1) from nI_add i 1]
  refine r_sld (pc := 597) (vp_in_nI (by omega) (by omega)) dL_law_597 ?_
  refine r_aload_nX (pc := 598) dL_law_598 rfl rfl ?_
  refine r_iload (pc := 599) dL_law_599 rfl ?_
  refine r_iconst (pc := 601) (v := 2) dL_law_601 (by decide) ?_
  refine r_iadd (pc := 602) dL_law_602 ?_
  rw [show nI i + 2 = nI (i + 2) from nI_add i 2]
  refine r_sld (pc := 603) (vp_in_nI (by omega) (by omega)) dL_law_603 ?_
  refine r_aload_n (pc := 604) dL_law_604 rfl rfl ?_
  refine r_callSH (pc := 605) (n := 4) (kc' := kc + 20) (ks' := ks + 500) (rest := []) (cs_of hLI.1 (by decide +kernel) (al_typeIn hN h0 (nx_typeIn hLI _ _) (lE_of hLI.1))) rfl rfl kwL_typeIn tw_51 tw_625 tw_626 ⟨(by decide : yL_typeIn.cls ≠ "java/lang/invoke/MethodHandle"), (by decide : yL_typeIn.cls ≠ "java/lang/invoke/VarHandle")⟩ (by decide +kernel : (parseMethodDescriptor yL_typeIn.desc).map (fun d => d.parameters.length) = some 4) (Nat.le_of_ble_eq_true rfl) (Nat.le_of_ble_eq_true rfl) (by show kc + 20 + 2 ≤ kc + 40; omega) (by show ks + 500 + 12 ≤ ks + 1000; omega) (by exact (Nat.le_of_ble_eq_true rfl)) rfl (List.forall_mem_cons.mpr ⟨rfl, (List.forall_mem_cons.mpr ⟨rfl, (List.forall_mem_cons.mpr ⟨rfl, (List.forall_mem_cons.mpr ⟨rfl, fun _ h => nomatch h⟩)⟩)⟩)⟩) rfl dL_law_605 (fun E w9 hq _ => by obtain ⟨c, z, -⟩ := hq; cases z) (fun r w9 hq _ => ?_)
  obtain ⟨c9, e9, ⟨fs9, h12⟩, hA⟩ := hq
  cases e9
  refine r_istore (pc := 608) dL_law_608 (Nat.le_of_ble_eq_true rfl) rfl ?_
  refine r_aload_n (pc := 610) dL_law_610 rfl rfl ?_
  refine r_aload_nX (pc := 611) dL_law_611 rfl rfl ?_
  refine r_iload (pc := 612) dL_law_612 rfl ?_
  refine r_iconst (pc := 614) (v := 1) dL_law_614 (by decide) ?_
  refine r_iadd (pc := 615) dL_law_615 ?_
  rw [show nI i + 1 = nI (i + 1) from nI_add i 1]
  refine r_sld (pc := 616) (vp_in_nI (by omega) (by omega)) dL_law_616 ?_
  refine r_aload_nX (pc := 617) dL_law_617 rfl rfl ?_
  refine r_iload (pc := 618) dL_law_618 rfl ?_
  refine r_iconst (pc := 620) (v := 2) dL_law_620 (by decide) ?_
  refine r_iadd (pc := 621) dL_law_621 ?_
  rw [show nI i + 2 = nI (i + 2) from nI_add i 2]
  refine r_sld (pc := 622) (vp_in_nI (by omega) (by omega)) dL_law_622 ?_
  refine s_L_134 (pc := 623) (kc' := kc + 10) (ks' := ks + 100) rfl rfl hA h12 (Nat.le_of_ble_eq_true rfl) (Nat.le_of_ble_eq_true rfl) (by show kc + 10 + 0 ≤ kc + 20; omega) (by show ks + 100 + 0 ≤ ks + 500; omega) (by exact (Nat.le_of_ble_eq_true rfl)) rfl (List.forall_mem_cons.mpr ⟨rfl, (List.forall_mem_cons.mpr ⟨rfl, (List.forall_mem_cons.mpr ⟨rfl, fun _ h => nomatch h⟩)⟩)⟩) rfl dL_law_623 (fun E w8 hq _ => by obtain ⟨b, z, -⟩ := hq; cases z) (fun r w8 hq _ => ?_)
  obtain ⟨b9, e9, hJ⟩ := hq
  cases e9
  obtain ⟨f9, h30, hf9⟩ := LJ_30 hJ
  obtain ⟨fs8, h12⟩ := LJ_12 hJ
  refine r_istore (pc := 626) dL_law_626 (Nat.le_of_ble_eq_true rfl) rfl ?_
  refine r_aload_n (pc := 628) dL_law_628 rfl rfl ?_
  refine s_L_96 (pc := 629) (kc' := kc) (ks' := ks) rfl rfl (LJ_thr hJ) h12 (Nat.le_of_ble_eq_true rfl) (Nat.le_of_ble_eq_true rfl) (by show kc + 0 ≤ kc + 10; omega) (by show ks + 0 ≤ ks + 100; omega) (by exact (Nat.le_of_ble_eq_true rfl)) rfl (List.forall_mem_cons.mpr ⟨rfl, fun _ h => nomatch h⟩) rfl dL_law_629 aw_kt (aw_kq ?_)
  refine r_iload (pc := 632) dL_law_632 rfl ?_
  refine r_icmp_eq (pc := 634) (tgt := 639) dL_law_634 (by decide) (fun h634 => ?_) (fun h => absurd rfl h)
  refine r_iload (pc := 639) dL_law_639 rfl ?_
  refine r_if_ne (pc := 641) (tgt := 656) dL_law_641 (by decide) (fun h641 => ?_) (fun h641 => ?_)
  · refine r_goto (pc := 656) (tgt := 1556) dL_law_656 (by decide) ?_
    refine AW_weak (kc' := kc) (ks' := ks) (by omega) (by omega) (fun _ _ z => z) ?_
    refine AW_drop 6 rfl ?_
    refine AW_drop 5 rfl ?_
    exact kk _ (LJ_X hJ)
  · refine r_aload_n (pc := 644) dL_law_644 rfl rfl ?_
    refine r_iconst (pc := 645) (v := 0) dL_law_645 (by decide) ?_
    refine r_laload (pc := 646) h30 (vp_in_nI (n := 0) (N := 1) (by decide) (by decide)) dL_law_646 ?_
    rw [show f9 (Int32.toNatClampNeg 0) = vlI b9 from hf9 h641]
    refine r_iload (pc := 647) dL_law_647 rfl ?_
    refine r_i2l (pc := 649) dL_law_649 ?_
    rw [show vlI b9 = b9.toInt64 from rfl]
    refine r_lcmp (pc := 650) dL_law_650 ?_
    rw [lg_same]
    refine r_if_eq (pc := 651) (tgt := 656) dL_law_651 (by decide) (fun h651 => ?_) (fun h => absurd rfl h)
    refine r_goto (pc := 656) (tgt := 1556) dL_law_656 (by decide) ?_
    refine AW_weak (kc' := kc) (ks' := ks) (by omega) (by omega) (fun _ _ z => z) ?_
    refine AW_drop 6 rfl ?_
    refine AW_drop 5 rfl ?_
    exact kk _ (LJ_X hJ)
set_option maxRecDepth 100000 in
set_option maxHeartbeats 4000000 in
theorem lc_11 {G : aw_G} (hN : aw_nc G) {w : List va_E} (hX : LX w) {i kc ks : Nat} (hi : i + 4 ≤ G.2.2.2.2.2.2.2.1) (hL9 : G.2.2.2.2.2.2.2.1 ≤ 2048) {Q : aw_R → List va_E → Prop} (kk : ∀ w', LX w' → AW G fL_law kc ks w' 1556 [some (.float 0), some (.ref 0), some (.ref 12), some (.ref 30), some (.int (nI i)), none, none] [] Q) : AW G fL_law (kc + 40) (ks + 1000) w 659 [some (.float 0), some (.ref 0), some (.ref 12), some (.ref 30), some (.int (nI i)), none, none] [] Q := by
  obtain ⟨ow, tn, vn, an, R, vv, sc, ar, fo, hLI⟩ := id hX
  have h0 := hLI.2.1.1.choose_spec.choose_spec.choose_spec.choose_spec.choose_spec.choose_spec.choose_spec.1.1.2
  refine r_aload_n (pc := 659) dL_law_659 rfl rfl ?_
  refine r_aload_nX (pc := 660) dL_law_660 rfl rfl ?_
  refine r_iload (pc := 661) dL_law_661 rfl ?_
  refine r_iconst (pc := 663) (v := 1) dL_law_663 (by decide) ?_
  refine r_iadd (pc := 664) dL_law_664 ?_
  rw [show nI i + 1 = nI (i + 1) from nI_add i 1]
  refine r_sld (pc := 665) (vp_in_nI (by omega) (by omega)) dL_law_665 ?_
  refine r_aload_nX (pc := 666) dL_law_666 rfl rfl ?_
  refine r_iload (pc := 667) dL_law_667 rfl ?_
  refine r_iconst (pc := 669) (v := 2) dL_law_669 (by decide) ?_
  refine r_iadd (pc := 670) dL_law_670 ?_
  rw [show nI i + 2 = nI (i + 2) from nI_add i 2]
  refine r_sld (pc := 671) (vp_in_nI (by omega) (by omega)) dL_law_671 ?_
  refine r_aload_n (pc := 672) dL_law_672 rfl rfl ?_
  refine r_callSH (pc := 673) (n := 4) (kc' := kc + 20) (ks' := ks + 500) (rest := []) (cs_of hLI.1 (by decide +kernel) (al_order hN h0 (nx_order hLI _ _) (lE_of hLI.1))) rfl rfl kwL_order tw_51 tw_638 tw_639 ⟨(by decide : yL_order.cls ≠ "java/lang/invoke/MethodHandle"), (by decide : yL_order.cls ≠ "java/lang/invoke/VarHandle")⟩ (by decide +kernel : (parseMethodDescriptor yL_order.desc).map (fun d => d.parameters.length) = some 4) (Nat.le_of_ble_eq_true rfl) (Nat.le_of_ble_eq_true rfl) (by show kc + 20 + 2 ≤ kc + 40; omega) (by show ks + 500 + 12 ≤ ks + 1000; omega) (by exact (Nat.le_of_ble_eq_true rfl)) rfl (List.forall_mem_cons.mpr ⟨rfl, (List.forall_mem_cons.mpr ⟨rfl, (List.forall_mem_cons.mpr ⟨rfl, (List.forall_mem_cons.mpr ⟨rfl, fun _ h => nomatch h⟩)⟩)⟩)⟩) rfl dL_law_673 (fun E w9 hq _ => by obtain ⟨c, z, -⟩ := hq; cases z) (fun r w9 hq _ => ?_)
  obtain ⟨c9, e9, ⟨fs9, h12⟩, hA⟩ := hq
  cases e9
  refine r_istore (pc := 676) dL_law_676 (Nat.le_of_ble_eq_true rfl) rfl ?_
  refine r_aload_n (pc := 678) dL_law_678 rfl rfl ?_
  refine r_aload_nX (pc := 679) dL_law_679 rfl rfl ?_
  refine r_iload (pc := 680) dL_law_680 rfl ?_
  refine r_iconst (pc := 682) (v := 1) dL_law_682 (by decide) ?_
  refine r_iadd (pc := 683) dL_law_683 ?_
  rw [show nI i + 1 = nI (i + 1) from nI_add i 1]
  refine r_sld (pc := 684) (vp_in_nI (by omega) (by omega)) dL_law_684 ?_
  refine r_aload_nX (pc := 685) dL_law_685 rfl rfl ?_
  refine r_iload (pc := 686) dL_law_686 rfl ?_
  refine r_iconst (pc := 688) (v := 2) dL_law_688 (by decide) ?_
  refine r_iadd (pc := 689) dL_law_689 ?_
  rw [show nI i + 2 = nI (i + 2) from nI_add i 2]
  refine r_sld (pc := 690) (vp_in_nI (by omega) (by omega)) dL_law_690 ?_
  refine s_L_137 (pc := 691) (kc' := kc + 10) (ks' := ks + 100) rfl rfl hA h12 (Nat.le_of_ble_eq_true rfl) (Nat.le_of_ble_eq_true rfl) (by show kc + 10 + 0 ≤ kc + 20; omega) (by show ks + 100 + 0 ≤ ks + 500; omega) (by exact (Nat.le_of_ble_eq_true rfl)) rfl (List.forall_mem_cons.mpr ⟨rfl, (List.forall_mem_cons.mpr ⟨rfl, (List.forall_mem_cons.mpr ⟨rfl, fun _ h => nomatch h⟩)⟩)⟩) rfl dL_law_691 (fun E w8 hq _ => by obtain ⟨b, z, -⟩ := hq; cases z) (fun r w8 hq _ => ?_)
  obtain ⟨b9, e9, hJ⟩ := hq
  cases e9
  obtain ⟨f9, h30, hf9⟩ := LJ_30 hJ
  obtain ⟨fs8, h12⟩ := LJ_12 hJ
  refine r_istore (pc := 694) dL_law_694 (Nat.le_of_ble_eq_true rfl) rfl ?_
  refine r_aload_n (pc := 696) dL_law_696 rfl rfl ?_
  refine s_L_96 (pc := 697) (kc' := kc) (ks' := ks) rfl rfl (LJ_thr hJ) h12 (Nat.le_of_ble_eq_true rfl) (Nat.le_of_ble_eq_true rfl) (by show kc + 0 ≤ kc + 10; omega) (by show ks + 0 ≤ ks + 100; omega) (by exact (Nat.le_of_ble_eq_true rfl)) rfl (List.forall_mem_cons.mpr ⟨rfl, fun _ h => nomatch h⟩) rfl dL_law_697 aw_kt (aw_kq ?_)
  refine r_iload (pc := 700) dL_law_700 rfl ?_
  refine r_icmp_eq (pc := 702) (tgt := 707) dL_law_702 (by decide) (fun h702 => ?_) (fun h => absurd rfl h)
  refine r_iload (pc := 707) dL_law_707 rfl ?_
  refine r_if_ne (pc := 709) (tgt := 724) dL_law_709 (by decide) (fun h709 => ?_) (fun h709 => ?_)
  · refine r_goto (pc := 724) (tgt := 1556) dL_law_724 (by decide) ?_
    refine AW_weak (kc' := kc) (ks' := ks) (by omega) (by omega) (fun _ _ z => z) ?_
    refine AW_drop 6 rfl ?_
    refine AW_drop 5 rfl ?_
    exact kk _ (LJ_X hJ)
  · refine r_aload_n (pc := 712) dL_law_712 rfl rfl ?_
    refine r_iconst (pc := 713) (v := 0) dL_law_713 (by decide) ?_
    refine r_laload (pc := 714) h30 (vp_in_nI (n := 0) (N := 1) (by decide) (by decide)) dL_law_714 ?_
    rw [show f9 (Int32.toNatClampNeg 0) = vlI b9 from hf9 h709]
    refine r_iload (pc := 715) dL_law_715 rfl ?_
    refine r_i2l (pc := 717) dL_law_717 ?_
    rw [show vlI b9 = b9.toInt64 from rfl]
    refine r_lcmp (pc := 718) dL_law_718 ?_
    rw [lg_same]
    refine r_if_eq (pc := 719) (tgt := 724) dL_law_719 (by decide) (fun h719 => ?_) (fun h => absurd rfl h)
    refine r_goto (pc := 724) (tgt := 1556) dL_law_724 (by decide) ?_
    refine AW_weak (kc' := kc) (ks' := ks) (by omega) (by omega) (fun _ _ z => z) ?_
    refine AW_drop 6 rfl ?_
    refine AW_drop 5 rfl ?_
    exact kk _ (LJ_X hJ)
set_option maxRecDepth 100000 in
set_option maxHeartbeats 4000000 in
theorem lc_12 {G : aw_G} (hN : aw_nc G) {w : List va_E} (hX : LX w) {i kc ks : Nat} (hi : i + 4 ≤ G.2.2.2.2.2.2.2.1) (hL9 : G.2.2.2.2.2.2.2.1 ≤ 2048) {Q : aw_R → List va_E → Prop} (kk : ∀ w', LX w' → AW G fL_law kc ks w' 1556 [some (.float 0), some (.ref 0), some (.ref 12), some (.ref 30), some (.int (nI i)), none, none] [] Q) : AW G fL_law (kc + 40) (ks + 1000) w 727 [some (.float 0), some (.ref 0), some (.ref 12), some (.ref 30), some (.int (nI i)), none, none] [] Q := by
  obtain ⟨ow, tn, vn, an, R, vv, sc, ar, fo, hLI⟩ := id hX
  have h0 := hLI.2.1.1.choose_spec.choose_spec.choose_spec.choose_spec.choose_spec.choose_spec.choose_spec.1.1.2
  refine r_aload_n (pc := 727) dL_law_727 rfl rfl ?_
  refine r_aload_nX (pc := 728) dL_law_728 rfl rfl ?_
  refine r_iload (pc := 729) dL_law_729 rfl ?_
  refine r_iconst (pc := 731) (v := 1) dL_law_731 (by decide) ?_
  refine r_iadd (pc := 732) dL_law_732 ?_
  rw [show nI i + 1 = nI (i + 1) from nI_add i 1]
  refine r_sld (pc := 733) (vp_in_nI (by omega) (by omega)) dL_law_733 ?_
  refine r_aload_nX (pc := 734) dL_law_734 rfl rfl ?_
  refine r_iload (pc := 735) dL_law_735 rfl ?_
  refine r_iconst (pc := 737) (v := 2) dL_law_737 (by decide) ?_
  refine r_iadd (pc := 738) dL_law_738 ?_
  rw [show nI i + 2 = nI (i + 2) from nI_add i 2]
  refine r_sld (pc := 739) (vp_in_nI (by omega) (by omega)) dL_law_739 ?_
  refine r_aload_nX (pc := 740) dL_law_740 rfl rfl ?_
  refine r_iload (pc := 741) dL_law_741 rfl ?_
  refine r_iconst (pc := 743) (v := 3) dL_law_743 (by decide) ?_
  refine r_iadd (pc := 744) dL_law_744 ?_
  rw [show nI i + 3 = nI (i + 3) from nI_add i 3]
  refine r_sld (pc := 745) (vp_in_nI (by omega) (by omega)) dL_law_745 ?_
  refine r_aload_n (pc := 746) dL_law_746 rfl rfl ?_
  refine r_callSH (pc := 747) (n := 5) (kc' := kc + 20) (ks' := ks + 500) (rest := []) (cs_of hLI.1 (by decide +kernel) (al_plain hN h0 (nx_plain hLI _ _ _) (lE_of hLI.1))) rfl rfl kwL_plain tw_51 tw_653 tw_654 ⟨(by decide : yL_plain.cls ≠ "java/lang/invoke/MethodHandle"), (by decide : yL_plain.cls ≠ "java/lang/invoke/VarHandle")⟩ (by decide +kernel : (parseMethodDescriptor yL_plain.desc).map (fun d => d.parameters.length) = some 5) (Nat.le_of_ble_eq_true rfl) (Nat.le_of_ble_eq_true rfl) (by show kc + 20 + 3 ≤ kc + 40; omega) (by show ks + 500 + 18 ≤ ks + 1000; omega) (by exact (Nat.le_of_ble_eq_true rfl)) rfl (List.forall_mem_cons.mpr ⟨rfl, (List.forall_mem_cons.mpr ⟨rfl, (List.forall_mem_cons.mpr ⟨rfl, (List.forall_mem_cons.mpr ⟨rfl, (List.forall_mem_cons.mpr ⟨rfl, fun _ h => nomatch h⟩)⟩)⟩)⟩)⟩) rfl dL_law_747 (fun E w9 hq _ => by obtain ⟨c, z, -⟩ := hq; cases z) (fun r w9 hq _ => ?_)
  obtain ⟨c9, e9, ⟨fs9, h12⟩, hA⟩ := hq
  cases e9
  refine r_istore (pc := 750) dL_law_750 (Nat.le_of_ble_eq_true rfl) rfl ?_
  refine r_aload_n (pc := 752) dL_law_752 rfl rfl ?_
  refine r_aload_nX (pc := 753) dL_law_753 rfl rfl ?_
  refine r_iload (pc := 754) dL_law_754 rfl ?_
  refine r_iconst (pc := 756) (v := 1) dL_law_756 (by decide) ?_
  refine r_iadd (pc := 757) dL_law_757 ?_
  rw [show nI i + 1 = nI (i + 1) from nI_add i 1]
  refine r_sld (pc := 758) (vp_in_nI (by omega) (by omega)) dL_law_758 ?_
  refine r_aload_nX (pc := 759) dL_law_759 rfl rfl ?_
  refine r_iload (pc := 760) dL_law_760 rfl ?_
  refine r_iconst (pc := 762) (v := 2) dL_law_762 (by decide) ?_
  refine r_iadd (pc := 763) dL_law_763 ?_
  rw [show nI i + 2 = nI (i + 2) from nI_add i 2]
  refine r_sld (pc := 764) (vp_in_nI (by omega) (by omega)) dL_law_764 ?_
  refine r_aload_nX (pc := 765) dL_law_765 rfl rfl ?_
  refine r_iload (pc := 766) dL_law_766 rfl ?_
  refine r_iconst (pc := 768) (v := 3) dL_law_768 (by decide) ?_
  refine r_iadd (pc := 769) dL_law_769 ?_
  rw [show nI i + 3 = nI (i + 3) from nI_add i 3]
  refine r_sld (pc := 770) (vp_in_nI (by omega) (by omega)) dL_law_770 ?_
  refine s_L_141 (pc := 771) (kc' := kc + 10) (ks' := ks + 100) rfl rfl hA h12 (Nat.le_of_ble_eq_true rfl) (Nat.le_of_ble_eq_true rfl) (by show kc + 10 + 0 ≤ kc + 20; omega) (by show ks + 100 + 0 ≤ ks + 500; omega) (by exact (Nat.le_of_ble_eq_true rfl)) rfl (List.forall_mem_cons.mpr ⟨rfl, (List.forall_mem_cons.mpr ⟨rfl, (List.forall_mem_cons.mpr ⟨rfl, (List.forall_mem_cons.mpr ⟨rfl, fun _ h => nomatch h⟩)⟩)⟩)⟩) rfl dL_law_771 (fun E w8 hq _ => by obtain ⟨b, z, -⟩ := hq; cases z) (fun r w8 hq _ => ?_)
  obtain ⟨b9, e9, hJ⟩ := hq
  cases e9
  obtain ⟨f9, h30, hf9⟩ := LJ_30 hJ
  obtain ⟨fs8, h12⟩ := LJ_12 hJ
  refine r_istore (pc := 774) dL_law_774 (Nat.le_of_ble_eq_true rfl) rfl ?_
  refine r_aload_n (pc := 776) dL_law_776 rfl rfl ?_
  refine s_L_96 (pc := 777) (kc' := kc) (ks' := ks) rfl rfl (LJ_thr hJ) h12 (Nat.le_of_ble_eq_true rfl) (Nat.le_of_ble_eq_true rfl) (by show kc + 0 ≤ kc + 10; omega) (by show ks + 0 ≤ ks + 100; omega) (by exact (Nat.le_of_ble_eq_true rfl)) rfl (List.forall_mem_cons.mpr ⟨rfl, fun _ h => nomatch h⟩) rfl dL_law_777 aw_kt (aw_kq ?_)
  refine r_iload (pc := 780) dL_law_780 rfl ?_
  refine r_icmp_eq (pc := 782) (tgt := 787) dL_law_782 (by decide) (fun h782 => ?_) (fun h => absurd rfl h)
  refine r_iload (pc := 787) dL_law_787 rfl ?_
  refine r_if_ne (pc := 789) (tgt := 804) dL_law_789 (by decide) (fun h789 => ?_) (fun h789 => ?_)
  · refine r_goto (pc := 804) (tgt := 1556) dL_law_804 (by decide) ?_
    refine AW_weak (kc' := kc) (ks' := ks) (by omega) (by omega) (fun _ _ z => z) ?_
    refine AW_drop 6 rfl ?_
    refine AW_drop 5 rfl ?_
    exact kk _ (LJ_X hJ)
  · refine r_aload_n (pc := 792) dL_law_792 rfl rfl ?_
    refine r_iconst (pc := 793) (v := 0) dL_law_793 (by decide) ?_
    refine r_laload (pc := 794) h30 (vp_in_nI (n := 0) (N := 1) (by decide) (by decide)) dL_law_794 ?_
    rw [show f9 (Int32.toNatClampNeg 0) = vlI b9 from hf9 h789]
    refine r_iload (pc := 795) dL_law_795 rfl ?_
    refine r_i2l (pc := 797) dL_law_797 ?_
    rw [show vlI b9 = b9.toInt64 from rfl]
    refine r_lcmp (pc := 798) dL_law_798 ?_
    rw [lg_same]
    refine r_if_eq (pc := 799) (tgt := 804) dL_law_799 (by decide) (fun h799 => ?_) (fun h => absurd rfl h)
    refine r_goto (pc := 804) (tgt := 1556) dL_law_804 (by decide) ?_
    refine AW_weak (kc' := kc) (ks' := ks) (by omega) (by omega) (fun _ _ z => z) ?_
    refine AW_drop 6 rfl ?_
    refine AW_drop 5 rfl ?_
    exact kk _ (LJ_X hJ)
set_option maxRecDepth 100000 in
set_option maxHeartbeats 4000000 in
theorem lc_13 {G : aw_G} (hN : aw_nc G) {w : List va_E} (hX : LX w) {i kc ks : Nat} (hi : i + 4 ≤ G.2.2.2.2.2.2.2.1) (hL9 : G.2.2.2.2.2.2.2.1 ≤ 2048) {Q : aw_R → List va_E → Prop} (kk : ∀ w', LX w' → AW G fL_law kc ks w' 1556 [some (.float 0), some (.ref 0), some (.ref 12), some (.ref 30), some (.int (nI i)), none, none] [] Q) : AW G fL_law (kc + 40) (ks + 1000) w 807 [some (.float 0), some (.ref 0), some (.ref 12), some (.ref 30), some (.int (nI i)), none, none] [] Q := by
  obtain ⟨ow, tn, vn, an, R, vv, sc, ar, fo, hLI⟩ := id hX
  have h0 := hLI.2.1.1.choose_spec.choose_spec.choose_spec.choose_spec.choose_spec.choose_spec.choose_spec.1.1.2
  refine r_aload_n (pc := 807) dL_law_807 rfl rfl ?_
  refine r_aload_n (pc := 808) dL_law_808 rfl rfl ?_
  refine r_callSH (pc := 809) (n := 2) (kc' := kc + 20) (ks' := ks + 500) (rest := []) (cs_of hLI.1 (by decide +kernel) (al_begin hN h0 (nx_begin hLI) (lE_of hLI.1))) rfl rfl kwL_begin tw_51 tw_661 tw_662 ⟨(by decide : yL_begin.cls ≠ "java/lang/invoke/MethodHandle"), (by decide : yL_begin.cls ≠ "java/lang/invoke/VarHandle")⟩ (by decide +kernel : (parseMethodDescriptor yL_begin.desc).map (fun d => d.parameters.length) = some 2) (Nat.le_of_ble_eq_true rfl) (Nat.le_of_ble_eq_true rfl) (by show kc + 20 + 5 ≤ kc + 40; omega) (by show ks + 500 + 25 ≤ ks + 1000; omega) (by exact (Nat.le_of_ble_eq_true rfl)) rfl (List.forall_mem_cons.mpr ⟨rfl, (List.forall_mem_cons.mpr ⟨rfl, fun _ h => nomatch h⟩)⟩) rfl dL_law_809 (fun E w9 hq _ => by obtain ⟨c, z, -⟩ := hq; cases z) (fun r w9 hq _ => ?_)
  obtain ⟨c9, e9, ⟨fs9, h12⟩, hA⟩ := hq
  cases e9
  refine r_istore (pc := 812) dL_law_812 (Nat.le_of_ble_eq_true rfl) rfl ?_
  refine r_aload_n (pc := 814) dL_law_814 rfl rfl ?_
  refine s_L_144 (pc := 815) (kc' := kc + 10) (ks' := ks + 100) rfl rfl hA h12 (Nat.le_of_ble_eq_true rfl) (Nat.le_of_ble_eq_true rfl) (by show kc + 10 + 0 ≤ kc + 20; omega) (by show ks + 100 + 0 ≤ ks + 500; omega) (by exact (Nat.le_of_ble_eq_true rfl)) rfl (List.forall_mem_cons.mpr ⟨rfl, fun _ h => nomatch h⟩) rfl dL_law_815 (fun E w8 hq _ => by obtain ⟨b, z, -⟩ := hq; cases z) (fun r w8 hq _ => ?_)
  obtain ⟨b9, e9, hJ⟩ := hq
  cases e9
  obtain ⟨f9, h30, hf9⟩ := LJ_30 hJ
  obtain ⟨fs8, h12⟩ := LJ_12 hJ
  refine r_istore (pc := 818) dL_law_818 (Nat.le_of_ble_eq_true rfl) rfl ?_
  refine r_aload_n (pc := 820) dL_law_820 rfl rfl ?_
  refine s_L_96 (pc := 821) (kc' := kc) (ks' := ks) rfl rfl (LJ_thr hJ) h12 (Nat.le_of_ble_eq_true rfl) (Nat.le_of_ble_eq_true rfl) (by show kc + 0 ≤ kc + 10; omega) (by show ks + 0 ≤ ks + 100; omega) (by exact (Nat.le_of_ble_eq_true rfl)) rfl (List.forall_mem_cons.mpr ⟨rfl, fun _ h => nomatch h⟩) rfl dL_law_821 aw_kt (aw_kq ?_)
  refine r_iload (pc := 824) dL_law_824 rfl ?_
  refine r_icmp_eq (pc := 826) (tgt := 831) dL_law_826 (by decide) (fun h826 => ?_) (fun h => absurd rfl h)
  refine r_iload (pc := 831) dL_law_831 rfl ?_
  refine r_if_ne (pc := 833) (tgt := 848) dL_law_833 (by decide) (fun h833 => ?_) (fun h833 => ?_)
  · refine r_goto (pc := 848) (tgt := 1556) dL_law_848 (by decide) ?_
    refine AW_weak (kc' := kc) (ks' := ks) (by omega) (by omega) (fun _ _ z => z) ?_
    refine AW_drop 6 rfl ?_
    refine AW_drop 5 rfl ?_
    exact kk _ (LJ_X hJ)
  · refine r_aload_n (pc := 836) dL_law_836 rfl rfl ?_
    refine r_iconst (pc := 837) (v := 0) dL_law_837 (by decide) ?_
    refine r_laload (pc := 838) h30 (vp_in_nI (n := 0) (N := 1) (by decide) (by decide)) dL_law_838 ?_
    rw [show f9 (Int32.toNatClampNeg 0) = vlI b9 from hf9 h833]
    refine r_iload (pc := 839) dL_law_839 rfl ?_
    refine r_i2l (pc := 841) dL_law_841 ?_
    rw [show vlI b9 = b9.toInt64 from rfl]
    refine r_lcmp (pc := 842) dL_law_842 ?_
    rw [lg_same]
    refine r_if_eq (pc := 843) (tgt := 848) dL_law_843 (by decide) (fun h843 => ?_) (fun h => absurd rfl h)
    refine r_goto (pc := 848) (tgt := 1556) dL_law_848 (by decide) ?_
    refine AW_weak (kc' := kc) (ks' := ks) (by omega) (by omega) (fun _ _ z => z) ?_
    refine AW_drop 6 rfl ?_
    refine AW_drop 5 rfl ?_
    exact kk _ (LJ_X hJ)
set_option maxRecDepth 100000 in
set_option maxHeartbeats 4000000 in
theorem lc_14 {G : aw_G} (hN : aw_nc G) {w : List va_E} (hX : LX w) {i kc ks : Nat} (hi : i + 4 ≤ G.2.2.2.2.2.2.2.1) (hL9 : G.2.2.2.2.2.2.2.1 ≤ 2048) {Q : aw_R → List va_E → Prop} (kk : ∀ w', LX w' → AW G fL_law kc ks w' 1556 [some (.float 0), some (.ref 0), some (.ref 12), some (.ref 30), some (.int (nI i)), none, none] [] Q) : AW G fL_law (kc + 40) (ks + 1000) w 851 [some (.float 0), some (.ref 0), some (.ref 12), some (.ref 30), some (.int (nI i)), none, none] [] Q := by
  obtain ⟨ow, tn, vn, an, R, vv, sc, ar, fo, hLI⟩ := id hX
  have h0 := hLI.2.1.1.choose_spec.choose_spec.choose_spec.choose_spec.choose_spec.choose_spec.choose_spec.1.1.2
  refine r_aload_n (pc := 851) dL_law_851 rfl rfl ?_
  refine r_aload_nX (pc := 852) dL_law_852 rfl rfl ?_
  refine r_iload (pc := 853) dL_law_853 rfl ?_
  refine r_iconst (pc := 855) (v := 1) dL_law_855 (by decide) ?_
  refine r_iadd (pc := 856) dL_law_856 ?_
  rw [show nI i + 1 = nI (i + 1) from nI_add i 1]
  refine r_sld (pc := 857) (vp_in_nI (by omega) (by omega)) dL_law_857 ?_
  refine r_aload_nX (pc := 858) dL_law_858 rfl rfl ?_
  refine r_iload (pc := 859) dL_law_859 rfl ?_
  refine r_iconst (pc := 861) (v := 2) dL_law_861 (by decide) ?_
  refine r_iadd (pc := 862) dL_law_862 ?_
  rw [show nI i + 2 = nI (i + 2) from nI_add i 2]
  refine r_sld (pc := 863) (vp_in_nI (by omega) (by omega)) dL_law_863 ?_
  refine r_aload_nX (pc := 864) dL_law_864 rfl rfl ?_
  refine r_iload (pc := 865) dL_law_865 rfl ?_
  refine r_iconst (pc := 867) (v := 3) dL_law_867 (by decide) ?_
  refine r_iadd (pc := 868) dL_law_868 ?_
  rw [show nI i + 3 = nI (i + 3) from nI_add i 3]
  refine r_sld (pc := 869) (vp_in_nI (by omega) (by omega)) dL_law_869 ?_
  refine r_aload_n (pc := 870) dL_law_870 rfl rfl ?_
  refine r_callSH (pc := 871) (n := 5) (kc' := kc + 20) (ks' := ks + 500) (rest := []) (cs_of hLI.1 (by decide +kernel) (al_put hN h0 (nx_put hLI _ _ _) (lE_of hLI.1))) rfl rfl kwL_put tw_51 tw_702 tw_703 ⟨(by decide : yL_put.cls ≠ "java/lang/invoke/MethodHandle"), (by decide : yL_put.cls ≠ "java/lang/invoke/VarHandle")⟩ (by decide +kernel : (parseMethodDescriptor yL_put.desc).map (fun d => d.parameters.length) = some 5) (Nat.le_of_ble_eq_true rfl) (Nat.le_of_ble_eq_true rfl) (by show kc + 20 + 4 ≤ kc + 40; omega) (by show ks + 500 + 24 ≤ ks + 1000; omega) (by exact (Nat.le_of_ble_eq_true rfl)) rfl (List.forall_mem_cons.mpr ⟨rfl, (List.forall_mem_cons.mpr ⟨rfl, (List.forall_mem_cons.mpr ⟨rfl, (List.forall_mem_cons.mpr ⟨rfl, (List.forall_mem_cons.mpr ⟨rfl, fun _ h => nomatch h⟩)⟩)⟩)⟩)⟩) rfl dL_law_871 (fun E w9 hq _ => by obtain ⟨c, z, -⟩ := hq; cases z) (fun r w9 hq _ => ?_)
  obtain ⟨c9, e9, ⟨fs9, h12⟩, hA⟩ := hq
  cases e9
  refine r_istore (pc := 874) dL_law_874 (Nat.le_of_ble_eq_true rfl) rfl ?_
  refine r_aload_n (pc := 876) dL_law_876 rfl rfl ?_
  refine r_aload_nX (pc := 877) dL_law_877 rfl rfl ?_
  refine r_iload (pc := 878) dL_law_878 rfl ?_
  refine r_iconst (pc := 880) (v := 1) dL_law_880 (by decide) ?_
  refine r_iadd (pc := 881) dL_law_881 ?_
  rw [show nI i + 1 = nI (i + 1) from nI_add i 1]
  refine r_sld (pc := 882) (vp_in_nI (by omega) (by omega)) dL_law_882 ?_
  refine r_aload_nX (pc := 883) dL_law_883 rfl rfl ?_
  refine r_iload (pc := 884) dL_law_884 rfl ?_
  refine r_iconst (pc := 886) (v := 2) dL_law_886 (by decide) ?_
  refine r_iadd (pc := 887) dL_law_887 ?_
  rw [show nI i + 2 = nI (i + 2) from nI_add i 2]
  refine r_sld (pc := 888) (vp_in_nI (by omega) (by omega)) dL_law_888 ?_
  refine r_aload_nX (pc := 889) dL_law_889 rfl rfl ?_
  refine r_iload (pc := 890) dL_law_890 rfl ?_
  refine r_iconst (pc := 892) (v := 3) dL_law_892 (by decide) ?_
  refine r_iadd (pc := 893) dL_law_893 ?_
  rw [show nI i + 3 = nI (i + 3) from nI_add i 3]
  refine r_sld (pc := 894) (vp_in_nI (by omega) (by omega)) dL_law_894 ?_
  refine s_L_147 (pc := 895) (kc' := kc + 10) (ks' := ks + 100) rfl rfl hA h12 (Nat.le_of_ble_eq_true rfl) (Nat.le_of_ble_eq_true rfl) (by show kc + 10 + 0 ≤ kc + 20; omega) (by show ks + 100 + 0 ≤ ks + 500; omega) (by exact (Nat.le_of_ble_eq_true rfl)) rfl (List.forall_mem_cons.mpr ⟨rfl, (List.forall_mem_cons.mpr ⟨rfl, (List.forall_mem_cons.mpr ⟨rfl, (List.forall_mem_cons.mpr ⟨rfl, fun _ h => nomatch h⟩)⟩)⟩)⟩) rfl dL_law_895 (fun E w8 hq _ => by obtain ⟨b, z, -⟩ := hq; cases z) (fun r w8 hq _ => ?_)
  obtain ⟨b9, e9, hJ⟩ := hq
  cases e9
  obtain ⟨f9, h30, hf9⟩ := LJ_30 hJ
  obtain ⟨fs8, h12⟩ := LJ_12 hJ
  refine r_istore (pc := 898) dL_law_898 (Nat.le_of_ble_eq_true rfl) rfl ?_
  refine r_aload_n (pc := 900) dL_law_900 rfl rfl ?_
  refine s_L_96 (pc := 901) (kc' := kc) (ks' := ks) rfl rfl (LJ_thr hJ) h12 (Nat.le_of_ble_eq_true rfl) (Nat.le_of_ble_eq_true rfl) (by show kc + 0 ≤ kc + 10; omega) (by show ks + 0 ≤ ks + 100; omega) (by exact (Nat.le_of_ble_eq_true rfl)) rfl (List.forall_mem_cons.mpr ⟨rfl, fun _ h => nomatch h⟩) rfl dL_law_901 aw_kt (aw_kq ?_)
  refine r_iload (pc := 904) dL_law_904 rfl ?_
  refine r_icmp_eq (pc := 906) (tgt := 911) dL_law_906 (by decide) (fun h906 => ?_) (fun h => absurd rfl h)
  refine r_iload (pc := 911) dL_law_911 rfl ?_
  refine r_if_ne (pc := 913) (tgt := 928) dL_law_913 (by decide) (fun h913 => ?_) (fun h913 => ?_)
  · refine r_goto (pc := 928) (tgt := 1556) dL_law_928 (by decide) ?_
    refine AW_weak (kc' := kc) (ks' := ks) (by omega) (by omega) (fun _ _ z => z) ?_
    refine AW_drop 6 rfl ?_
    refine AW_drop 5 rfl ?_
    exact kk _ (LJ_X hJ)
  · refine r_aload_n (pc := 916) dL_law_916 rfl rfl ?_
    refine r_iconst (pc := 917) (v := 0) dL_law_917 (by decide) ?_
    refine r_laload (pc := 918) h30 (vp_in_nI (n := 0) (N := 1) (by decide) (by decide)) dL_law_918 ?_
    rw [show f9 (Int32.toNatClampNeg 0) = vlI b9 from hf9 h913]
    refine r_iload (pc := 919) dL_law_919 rfl ?_
    refine r_i2l (pc := 921) dL_law_921 ?_
    rw [show vlI b9 = b9.toInt64 from rfl]
    refine r_lcmp (pc := 922) dL_law_922 ?_
    rw [lg_same]
    refine r_if_eq (pc := 923) (tgt := 928) dL_law_923 (by decide) (fun h923 => ?_) (fun h => absurd rfl h)
    refine r_goto (pc := 928) (tgt := 1556) dL_law_928 (by decide) ?_
    refine AW_weak (kc' := kc) (ks' := ks) (by omega) (by omega) (fun _ _ z => z) ?_
    refine AW_drop 6 rfl ?_
    refine AW_drop 5 rfl ?_
    exact kk _ (LJ_X hJ)
set_option maxRecDepth 100000 in
set_option maxHeartbeats 4000000 in
theorem lc_15 {G : aw_G} (hN : aw_nc G) {w : List va_E} (hX : LX w) {i kc ks : Nat} (hi : i + 4 ≤ G.2.2.2.2.2.2.2.1) (hL9 : G.2.2.2.2.2.2.2.1 ≤ 2048) {Q : aw_R → List va_E → Prop} (kk : ∀ w', LX w' → AW G fL_law kc ks w' 1556 [some (.float 0), some (.ref 0), some (.ref 12), some (.ref 30), some (.int (nI i)), none, none] [] Q) : AW G fL_law (kc + 40) (ks + 1000) w 931 [some (.float 0), some (.ref 0), some (.ref 12), some (.ref 30), some (.int (nI i)), none, none] [] Q := by
  obtain ⟨ow, tn, vn, an, R, vv, sc, ar, fo, hLI⟩ := id hX
  have h0 := hLI.2.1.1.choose_spec.choose_spec.choose_spec.choose_spec.choose_spec.choose_spec.choose_spec.1.1.2
  refine r_aload_n (pc := 931) dL_law_931 rfl rfl ?_
  refine r_aload_nX (pc := 932) dL_law_932 rfl rfl ?_
  refine r_iload (pc := 933) dL_law_933 rfl ?_
  refine r_iconst (pc := 935) (v := 1) dL_law_935 (by decide) ?_
  refine r_iadd (pc := 936) dL_law_936 ?_
  rw [show nI i + 1 = nI (i + 1) from nI_add i 1]
  refine r_sld (pc := 937) (vp_in_nI (by omega) (by omega)) dL_law_937 ?_
  refine r_aload_n (pc := 938) dL_law_938 rfl rfl ?_
  refine r_callSH (pc := 939) (n := 3) (kc' := kc + 20) (ks' := ks + 500) (rest := []) (cs_of hLI.1 (by decide +kernel) (al_handIn hN h0 (nx_handIn hLI _) (lE_of hLI.1))) rfl rfl kwL_handIn tw_51 tw_752 tw_753 ⟨(by decide : yL_handIn.cls ≠ "java/lang/invoke/MethodHandle"), (by decide : yL_handIn.cls ≠ "java/lang/invoke/VarHandle")⟩ (by decide +kernel : (parseMethodDescriptor yL_handIn.desc).map (fun d => d.parameters.length) = some 3) (Nat.le_of_ble_eq_true rfl) (Nat.le_of_ble_eq_true rfl) (by show kc + 20 + 2 ≤ kc + 40; omega) (by show ks + 500 + 12 ≤ ks + 1000; omega) (by exact (Nat.le_of_ble_eq_true rfl)) rfl (List.forall_mem_cons.mpr ⟨rfl, (List.forall_mem_cons.mpr ⟨rfl, (List.forall_mem_cons.mpr ⟨rfl, fun _ h => nomatch h⟩)⟩)⟩) rfl dL_law_939 (fun E w9 hq _ => by obtain ⟨c, z, -⟩ := hq; cases z) (fun r w9 hq _ => ?_)
  obtain ⟨c9, e9, ⟨fs9, h12⟩, hA⟩ := hq
  cases e9
  refine r_istore (pc := 942) dL_law_942 (Nat.le_of_ble_eq_true rfl) rfl ?_
  refine r_aload_n (pc := 944) dL_law_944 rfl rfl ?_
  refine r_aload_nX (pc := 945) dL_law_945 rfl rfl ?_
  refine r_iload (pc := 946) dL_law_946 rfl ?_
  refine r_iconst (pc := 948) (v := 1) dL_law_948 (by decide) ?_
  refine r_iadd (pc := 949) dL_law_949 ?_
  rw [show nI i + 1 = nI (i + 1) from nI_add i 1]
  refine r_sld (pc := 950) (vp_in_nI (by omega) (by omega)) dL_law_950 ?_
  refine s_L_150 (pc := 951) (kc' := kc + 10) (ks' := ks + 100) rfl rfl hA h12 (Nat.le_of_ble_eq_true rfl) (Nat.le_of_ble_eq_true rfl) (by show kc + 10 + 0 ≤ kc + 20; omega) (by show ks + 100 + 0 ≤ ks + 500; omega) (by exact (Nat.le_of_ble_eq_true rfl)) rfl (List.forall_mem_cons.mpr ⟨rfl, (List.forall_mem_cons.mpr ⟨rfl, fun _ h => nomatch h⟩)⟩) rfl dL_law_951 (fun E w8 hq _ => by obtain ⟨b, z, -⟩ := hq; cases z) (fun r w8 hq _ => ?_)
  obtain ⟨b9, e9, hJ⟩ := hq
  cases e9
  obtain ⟨f9, h30, hf9⟩ := LJ_30 hJ
  obtain ⟨fs8, h12⟩ := LJ_12 hJ
  refine r_istore (pc := 954) dL_law_954 (Nat.le_of_ble_eq_true rfl) rfl ?_
  refine r_aload_n (pc := 956) dL_law_956 rfl rfl ?_
  refine s_L_96 (pc := 957) (kc' := kc) (ks' := ks) rfl rfl (LJ_thr hJ) h12 (Nat.le_of_ble_eq_true rfl) (Nat.le_of_ble_eq_true rfl) (by show kc + 0 ≤ kc + 10; omega) (by show ks + 0 ≤ ks + 100; omega) (by exact (Nat.le_of_ble_eq_true rfl)) rfl (List.forall_mem_cons.mpr ⟨rfl, fun _ h => nomatch h⟩) rfl dL_law_957 aw_kt (aw_kq ?_)
  refine r_iload (pc := 960) dL_law_960 rfl ?_
  refine r_icmp_eq (pc := 962) (tgt := 967) dL_law_962 (by decide) (fun h962 => ?_) (fun h => absurd rfl h)
  refine r_iload (pc := 967) dL_law_967 rfl ?_
  refine r_if_ne (pc := 969) (tgt := 984) dL_law_969 (by decide) (fun h969 => ?_) (fun h969 => ?_)
  · refine r_goto (pc := 984) (tgt := 1556) dL_law_984 (by decide) ?_
    refine AW_weak (kc' := kc) (ks' := ks) (by omega) (by omega) (fun _ _ z => z) ?_
    refine AW_drop 6 rfl ?_
    refine AW_drop 5 rfl ?_
    exact kk _ (LJ_X hJ)
  · refine r_aload_n (pc := 972) dL_law_972 rfl rfl ?_
    refine r_iconst (pc := 973) (v := 0) dL_law_973 (by decide) ?_
    refine r_laload (pc := 974) h30 (vp_in_nI (n := 0) (N := 1) (by decide) (by decide)) dL_law_974 ?_
    rw [show f9 (Int32.toNatClampNeg 0) = vlI b9 from hf9 h969]
    refine r_iload (pc := 975) dL_law_975 rfl ?_
    refine r_i2l (pc := 977) dL_law_977 ?_
    rw [show vlI b9 = b9.toInt64 from rfl]
    refine r_lcmp (pc := 978) dL_law_978 ?_
    rw [lg_same]
    refine r_if_eq (pc := 979) (tgt := 984) dL_law_979 (by decide) (fun h979 => ?_) (fun h => absurd rfl h)
    refine r_goto (pc := 984) (tgt := 1556) dL_law_984 (by decide) ?_
    refine AW_weak (kc' := kc) (ks' := ks) (by omega) (by omega) (fun _ _ z => z) ?_
    refine AW_drop 6 rfl ?_
    refine AW_drop 5 rfl ?_
    exact kk _ (LJ_X hJ)
set_option maxRecDepth 100000 in
set_option maxHeartbeats 4000000 in
theorem lc_16 {G : aw_G} (hN : aw_nc G) {w : List va_E} (hX : LX w) {i kc ks : Nat} (hi : i + 4 ≤ G.2.2.2.2.2.2.2.1) (hL9 : G.2.2.2.2.2.2.2.1 ≤ 2048) {Q : aw_R → List va_E → Prop} (kk : ∀ w', LX w' → AW G fL_law kc ks w' 1556 [some (.float 0), some (.ref 0), some (.ref 12), some (.ref 30), some (.int (nI i)), none, none] [] Q) : AW G fL_law (kc + 40) (ks + 1000) w 987 [some (.float 0), some (.ref 0), some (.ref 12), some (.ref 30), some (.int (nI i)), none, none] [] Q := by
  obtain ⟨ow, tn, vn, an, R, vv, sc, ar, fo, hLI⟩ := id hX
  have h0 := hLI.2.1.1.choose_spec.choose_spec.choose_spec.choose_spec.choose_spec.choose_spec.choose_spec.1.1.2
  refine r_aload_n (pc := 987) dL_law_987 rfl rfl ?_
  refine s_L_151 (pc := 988) (kc' := kc + 20) (ks' := ks + 500) rfl rfl (ds_of (cd := cd1) hLI.1 (nx_answers hLI)) h0 (Nat.le_of_ble_eq_true rfl) (Nat.le_of_ble_eq_true rfl) (by show kc + 20 + 0 ≤ kc + 40; omega) (by show ks + 500 + 0 ≤ ks + 1000; omega) (by exact (Nat.le_of_ble_eq_true rfl)) rfl (List.forall_mem_cons.mpr ⟨rfl, fun _ h => nomatch h⟩) rfl dL_law_988 (fun E w9 hq _ => by obtain ⟨v, z, -⟩ := hq; cases z) (fun r w9 hq _ => ?_)
  obtain ⟨v9, e9, ⟨fs9, h12⟩, hA⟩ := hq
  cases e9
  refine r_aload_n (pc := 991) dL_law_991 rfl rfl ?_
  refine s_L_154 (pc := 992) (kc' := kc + 10) (ks' := ks + 100) rfl rfl hA h12 (Nat.le_of_ble_eq_true rfl) (Nat.le_of_ble_eq_true rfl) (by show kc + 10 + 0 ≤ kc + 20; omega) (by show ks + 100 + 0 ≤ ks + 500; omega) (by exact (Nat.le_of_ble_eq_true rfl)) rfl (List.forall_mem_cons.mpr ⟨rfl, fun _ h => nomatch h⟩) rfl dL_law_992 (fun E w8 hq _ => by obtain ⟨z, -⟩ := hq; cases z) (fun r w8 hq _ => ?_)
  obtain ⟨e9, x9, hJ⟩ := hq
  cases e9
  refine r_icmp_eq (pc := 995) (tgt := 1556) dL_law_995 (by decide) (fun h995 => ?_) (fun h => absurd rfl h)
  refine AW_weak (kc' := kc) (ks' := ks) (by omega) (by omega) (fun _ _ z => z) ?_
  exact kk _ (LJ_X hJ)
set_option maxRecDepth 100000 in
set_option maxHeartbeats 4000000 in
theorem lc_17 {G : aw_G} (hN : aw_nc G) {w : List va_E} (hX : LX w) {i kc ks : Nat} (hi : i + 4 ≤ G.2.2.2.2.2.2.2.1) (hL9 : G.2.2.2.2.2.2.2.1 ≤ 2048) {Q : aw_R → List va_E → Prop} (kk : ∀ w', LX w' → AW G fL_law kc ks w' 1556 [some (.float 0), some (.ref 0), some (.ref 12), some (.ref 30), some (.int (nI i)), none, none] [] Q) : AW G fL_law (kc + 40) (ks + 1000) w 1000 [some (.float 0), some (.ref 0), some (.ref 12), some (.ref 30), some (.int (nI i)), none, none] [] Q := by
  obtain ⟨ow, tn, vn, an, R, vv, sc, ar, fo, hLI⟩ := id hX
  have h0 := hLI.2.1.1.choose_spec.choose_spec.choose_spec.choose_spec.choose_spec.choose_spec.choose_spec.1.1.2
  refine r_aload_n (pc := 1000) dL_law_1000 rfl rfl ?_
  refine r_aload_nX (pc := 1001) dL_law_1001 rfl rfl ?_
  refine r_iload (pc := 1002) dL_law_1002 rfl ?_
  refine r_iconst (pc := 1004) (v := 1) dL_law_1004 (by decide) ?_
  refine r_iadd (pc := 1005) dL_law_1005 ?_
  rw [show nI i + 1 = nI (i + 1) from nI_add i 1]
  refine r_sld (pc := 1006) (vp_in_nI (by omega) (by omega)) dL_law_1006 ?_
  refine r_aload_n (pc := 1007) dL_law_1007 rfl rfl ?_
  refine r_callSH (pc := 1008) (n := 3) (kc' := kc + 20) (ks' := ks + 500) (rest := []) (cs_of hLI.1 (by decide +kernel) (al_stateOf hN h0 (nx_stateOf hLI _) (lE_of hLI.1))) rfl rfl kwL_stateOf tw_51 tw_771 tw_772 ⟨(by decide : yL_stateOf.cls ≠ "java/lang/invoke/MethodHandle"), (by decide : yL_stateOf.cls ≠ "java/lang/invoke/VarHandle")⟩ (by decide +kernel : (parseMethodDescriptor yL_stateOf.desc).map (fun d => d.parameters.length) = some 3) (Nat.le_of_ble_eq_true rfl) (Nat.le_of_ble_eq_true rfl) (by show kc + 20 + 1 ≤ kc + 40; omega) (by show ks + 500 + 6 ≤ ks + 1000; omega) (by exact (Nat.le_of_ble_eq_true rfl)) rfl (List.forall_mem_cons.mpr ⟨rfl, (List.forall_mem_cons.mpr ⟨rfl, (List.forall_mem_cons.mpr ⟨rfl, fun _ h => nomatch h⟩)⟩)⟩) rfl dL_law_1008 (fun E w9 hq _ => by obtain ⟨c, z, -⟩ := hq; cases z) (fun r w9 hq _ => ?_)
  obtain ⟨c9, e9, ⟨fs9, h12⟩, hA⟩ := hq
  cases e9
  refine r_istore (pc := 1011) dL_law_1011 (Nat.le_of_ble_eq_true rfl) rfl ?_
  refine r_aload_n (pc := 1013) dL_law_1013 rfl rfl ?_
  refine r_aload_nX (pc := 1014) dL_law_1014 rfl rfl ?_
  refine r_iload (pc := 1015) dL_law_1015 rfl ?_
  refine r_iconst (pc := 1017) (v := 1) dL_law_1017 (by decide) ?_
  refine r_iadd (pc := 1018) dL_law_1018 ?_
  rw [show nI i + 1 = nI (i + 1) from nI_add i 1]
  refine r_sld (pc := 1019) (vp_in_nI (by omega) (by omega)) dL_law_1019 ?_
  refine s_L_157 (pc := 1020) (kc' := kc + 10) (ks' := ks + 100) rfl rfl hA h12 (Nat.le_of_ble_eq_true rfl) (Nat.le_of_ble_eq_true rfl) (by show kc + 10 + 0 ≤ kc + 20; omega) (by show ks + 100 + 0 ≤ ks + 500; omega) (by exact (Nat.le_of_ble_eq_true rfl)) rfl (List.forall_mem_cons.mpr ⟨rfl, (List.forall_mem_cons.mpr ⟨rfl, fun _ h => nomatch h⟩)⟩) rfl dL_law_1020 (fun E w8 hq _ => by obtain ⟨b, z, -⟩ := hq; cases z) (fun r w8 hq _ => ?_)
  obtain ⟨b9, e9, hJ⟩ := hq
  cases e9
  obtain ⟨f9, h30, hf9⟩ := LJ_30 hJ
  obtain ⟨fs8, h12⟩ := LJ_12 hJ
  refine r_istore (pc := 1023) dL_law_1023 (Nat.le_of_ble_eq_true rfl) rfl ?_
  refine r_aload_n (pc := 1025) dL_law_1025 rfl rfl ?_
  refine s_L_96 (pc := 1026) (kc' := kc) (ks' := ks) rfl rfl (LJ_thr hJ) h12 (Nat.le_of_ble_eq_true rfl) (Nat.le_of_ble_eq_true rfl) (by show kc + 0 ≤ kc + 10; omega) (by show ks + 0 ≤ ks + 100; omega) (by exact (Nat.le_of_ble_eq_true rfl)) rfl (List.forall_mem_cons.mpr ⟨rfl, fun _ h => nomatch h⟩) rfl dL_law_1026 aw_kt (aw_kq ?_)
  refine r_iload (pc := 1029) dL_law_1029 rfl ?_
  refine r_icmp_eq (pc := 1031) (tgt := 1036) dL_law_1031 (by decide) (fun h1031 => ?_) (fun h => absurd rfl h)
  refine r_iload (pc := 1036) dL_law_1036 rfl ?_
  refine r_if_ne (pc := 1038) (tgt := 1053) dL_law_1038 (by decide) (fun h1038 => ?_) (fun h1038 => ?_)
  · refine r_goto (pc := 1053) (tgt := 1556) dL_law_1053 (by decide) ?_
    refine AW_weak (kc' := kc) (ks' := ks) (by omega) (by omega) (fun _ _ z => z) ?_
    refine AW_drop 6 rfl ?_
    refine AW_drop 5 rfl ?_
    exact kk _ (LJ_X hJ)
  · refine r_aload_n (pc := 1041) dL_law_1041 rfl rfl ?_
    refine r_iconst (pc := 1042) (v := 0) dL_law_1042 (by decide) ?_
    refine r_laload (pc := 1043) h30 (vp_in_nI (n := 0) (N := 1) (by decide) (by decide)) dL_law_1043 ?_
    rw [show f9 (Int32.toNatClampNeg 0) = vlI b9 from hf9 h1038]
    refine r_iload (pc := 1044) dL_law_1044 rfl ?_
    refine r_i2l (pc := 1046) dL_law_1046 ?_
    rw [show vlI b9 = b9.toInt64 from rfl]
    refine r_lcmp (pc := 1047) dL_law_1047 ?_
    rw [lg_same]
    refine r_if_eq (pc := 1048) (tgt := 1053) dL_law_1048 (by decide) (fun h1048 => ?_) (fun h => absurd rfl h)
    refine r_goto (pc := 1053) (tgt := 1556) dL_law_1053 (by decide) ?_
    refine AW_weak (kc' := kc) (ks' := ks) (by omega) (by omega) (fun _ _ z => z) ?_
    refine AW_drop 6 rfl ?_
    refine AW_drop 5 rfl ?_
    exact kk _ (LJ_X hJ)
set_option maxRecDepth 100000 in
set_option maxHeartbeats 4000000 in
theorem lc_18 {G : aw_G} (hN : aw_nc G) {w : List va_E} (hX : LX w) {i kc ks : Nat} (hi : i + 4 ≤ G.2.2.2.2.2.2.2.1) (hL9 : G.2.2.2.2.2.2.2.1 ≤ 2048) {Q : aw_R → List va_E → Prop} (kk : ∀ w', LX w' → AW G fL_law kc ks w' 1556 [some (.float 0), some (.ref 0), some (.ref 12), some (.ref 30), some (.int (nI i)), none, none] [] Q) : AW G fL_law (kc + 40) (ks + 1000) w 1056 [some (.float 0), some (.ref 0), some (.ref 12), some (.ref 30), some (.int (nI i)), none, none] [] Q := by
  obtain ⟨ow, tn, vn, an, R, vv, sc, ar, fo, hLI⟩ := id hX
  have h0 := hLI.2.1.1.choose_spec.choose_spec.choose_spec.choose_spec.choose_spec.choose_spec.choose_spec.1.1.2
  refine r_aload_n (pc := 1056) dL_law_1056 rfl rfl ?_
  refine r_aload_nX (pc := 1057) dL_law_1057 rfl rfl ?_
  refine r_iload (pc := 1058) dL_law_1058 rfl ?_
  refine r_iconst (pc := 1060) (v := 1) dL_law_1060 (by decide) ?_
  refine r_iadd (pc := 1061) dL_law_1061 ?_
  rw [show nI i + 1 = nI (i + 1) from nI_add i 1]
  refine r_sld (pc := 1062) (vp_in_nI (by omega) (by omega)) dL_law_1062 ?_
  refine r_aload_n (pc := 1063) dL_law_1063 rfl rfl ?_
  refine r_callSH (pc := 1064) (n := 3) (kc' := kc + 20) (ks' := ks + 500) (rest := []) (cs_of hLI.1 (by decide +kernel) (al_versionOf hN h0 (nx_versionOf hLI _) (lE_of hLI.1))) rfl rfl kwL_versionOf tw_51 tw_778 tw_779 ⟨(by decide : yL_versionOf.cls ≠ "java/lang/invoke/MethodHandle"), (by decide : yL_versionOf.cls ≠ "java/lang/invoke/VarHandle")⟩ (by decide +kernel : (parseMethodDescriptor yL_versionOf.desc).map (fun d => d.parameters.length) = some 3) (Nat.le_of_ble_eq_true rfl) (Nat.le_of_ble_eq_true rfl) (by show kc + 20 + 1 ≤ kc + 40; omega) (by show ks + 500 + 6 ≤ ks + 1000; omega) (by exact (Nat.le_of_ble_eq_true rfl)) rfl (List.forall_mem_cons.mpr ⟨rfl, (List.forall_mem_cons.mpr ⟨rfl, (List.forall_mem_cons.mpr ⟨rfl, fun _ h => nomatch h⟩)⟩)⟩) rfl dL_law_1064 (fun E w9 hq _ => by obtain ⟨c, z, -⟩ := hq; cases z) (fun r w9 hq _ => ?_)
  obtain ⟨c9, e9, ⟨fs9, h12⟩, hA⟩ := hq
  cases e9
  refine r_istore (pc := 1067) dL_law_1067 (Nat.le_of_ble_eq_true rfl) rfl ?_
  refine r_aload_n (pc := 1069) dL_law_1069 rfl rfl ?_
  refine r_aload_nX (pc := 1070) dL_law_1070 rfl rfl ?_
  refine r_iload (pc := 1071) dL_law_1071 rfl ?_
  refine r_iconst (pc := 1073) (v := 1) dL_law_1073 (by decide) ?_
  refine r_iadd (pc := 1074) dL_law_1074 ?_
  rw [show nI i + 1 = nI (i + 1) from nI_add i 1]
  refine r_sld (pc := 1075) (vp_in_nI (by omega) (by omega)) dL_law_1075 ?_
  refine s_L_160 (pc := 1076) (kc' := kc + 10) (ks' := ks + 100) rfl rfl hA h12 (Nat.le_of_ble_eq_true rfl) (Nat.le_of_ble_eq_true rfl) (by show kc + 10 + 0 ≤ kc + 20; omega) (by show ks + 100 + 0 ≤ ks + 500; omega) (by exact (Nat.le_of_ble_eq_true rfl)) rfl (List.forall_mem_cons.mpr ⟨rfl, (List.forall_mem_cons.mpr ⟨rfl, fun _ h => nomatch h⟩)⟩) rfl dL_law_1076 (fun E w8 hq _ => by obtain ⟨b, z, -⟩ := hq; cases z) (fun r w8 hq _ => ?_)
  obtain ⟨b9, e9, hJ⟩ := hq
  cases e9
  obtain ⟨f9, h30, hf9⟩ := LJ_30 hJ
  obtain ⟨fs8, h12⟩ := LJ_12 hJ
  refine r_istore (pc := 1079) dL_law_1079 (Nat.le_of_ble_eq_true rfl) rfl ?_
  refine r_aload_n (pc := 1081) dL_law_1081 rfl rfl ?_
  refine s_L_96 (pc := 1082) (kc' := kc) (ks' := ks) rfl rfl (LJ_thr hJ) h12 (Nat.le_of_ble_eq_true rfl) (Nat.le_of_ble_eq_true rfl) (by show kc + 0 ≤ kc + 10; omega) (by show ks + 0 ≤ ks + 100; omega) (by exact (Nat.le_of_ble_eq_true rfl)) rfl (List.forall_mem_cons.mpr ⟨rfl, fun _ h => nomatch h⟩) rfl dL_law_1082 aw_kt (aw_kq ?_)
  refine r_iload (pc := 1085) dL_law_1085 rfl ?_
  refine r_icmp_eq (pc := 1087) (tgt := 1092) dL_law_1087 (by decide) (fun h1087 => ?_) (fun h => absurd rfl h)
  refine r_iload (pc := 1092) dL_law_1092 rfl ?_
  refine r_if_ne (pc := 1094) (tgt := 1109) dL_law_1094 (by decide) (fun h1094 => ?_) (fun h1094 => ?_)
  · refine r_goto (pc := 1109) (tgt := 1556) dL_law_1109 (by decide) ?_
    refine AW_weak (kc' := kc) (ks' := ks) (by omega) (by omega) (fun _ _ z => z) ?_
    refine AW_drop 6 rfl ?_
    refine AW_drop 5 rfl ?_
    exact kk _ (LJ_X hJ)
  · refine r_aload_n (pc := 1097) dL_law_1097 rfl rfl ?_
    refine r_iconst (pc := 1098) (v := 0) dL_law_1098 (by decide) ?_
    refine r_laload (pc := 1099) h30 (vp_in_nI (n := 0) (N := 1) (by decide) (by decide)) dL_law_1099 ?_
    rw [show f9 (Int32.toNatClampNeg 0) = vlI b9 from hf9 h1094]
    refine r_iload (pc := 1100) dL_law_1100 rfl ?_
    refine r_i2l (pc := 1102) dL_law_1102 ?_
    rw [show vlI b9 = b9.toInt64 from rfl]
    refine r_lcmp (pc := 1103) dL_law_1103 ?_
    rw [lg_same]
    refine r_if_eq (pc := 1104) (tgt := 1109) dL_law_1104 (by decide) (fun h1104 => ?_) (fun h => absurd rfl h)
    refine r_goto (pc := 1109) (tgt := 1556) dL_law_1109 (by decide) ?_
    refine AW_weak (kc' := kc) (ks' := ks) (by omega) (by omega) (fun _ _ z => z) ?_
    refine AW_drop 6 rfl ?_
    refine AW_drop 5 rfl ?_
    exact kk _ (LJ_X hJ)
set_option maxRecDepth 100000 in
set_option maxHeartbeats 4000000 in
theorem lc_19 {G : aw_G} (hN : aw_nc G) {w : List va_E} (hX : LX w) {i kc ks : Nat} (hi : i + 4 ≤ G.2.2.2.2.2.2.2.1) (hL9 : G.2.2.2.2.2.2.2.1 ≤ 2048) {Q : aw_R → List va_E → Prop} (kk : ∀ w', LX w' → AW G fL_law kc ks w' 1556 [some (.float 0), some (.ref 0), some (.ref 12), some (.ref 30), some (.int (nI i)), none, none] [] Q) : AW G fL_law (kc + 40) (ks + 1000) w 1112 [some (.float 0), some (.ref 0), some (.ref 12), some (.ref 30), some (.int (nI i)), none, none] [] Q := by
  obtain ⟨ow, tn, vn, an, R, vv, sc, ar, fo, hLI⟩ := id hX
  have h0 := hLI.2.1.1.choose_spec.choose_spec.choose_spec.choose_spec.choose_spec.choose_spec.choose_spec.1.1.2
  refine r_aload_n (pc := 1112) dL_law_1112 rfl rfl ?_
  refine r_aload_nX (pc := 1113) dL_law_1113 rfl rfl ?_
  refine r_iload (pc := 1114) dL_law_1114 rfl ?_
  refine r_iconst (pc := 1116) (v := 1) dL_law_1116 (by decide) ?_
  refine r_iadd (pc := 1117) dL_law_1117 ?_
  rw [show nI i + 1 = nI (i + 1) from nI_add i 1]
  refine r_sld (pc := 1118) (vp_in_nI (by omega) (by omega)) dL_law_1118 ?_
  refine r_aload_nX (pc := 1119) dL_law_1119 rfl rfl ?_
  refine r_iload (pc := 1120) dL_law_1120 rfl ?_
  refine r_iconst (pc := 1122) (v := 2) dL_law_1122 (by decide) ?_
  refine r_iadd (pc := 1123) dL_law_1123 ?_
  rw [show nI i + 2 = nI (i + 2) from nI_add i 2]
  refine r_sld (pc := 1124) (vp_in_nI (by omega) (by omega)) dL_law_1124 ?_
  refine r_aload_n (pc := 1125) dL_law_1125 rfl rfl ?_
  refine r_callSH (pc := 1126) (n := 4) (kc' := kc + 20) (ks' := ks + 500) (rest := []) (cs_of hLI.1 (by decide +kernel) (al_value hN h0 (nx_value hLI _ _) (lE_of hLI.1))) rfl rfl kwL_value tw_51 tw_789 tw_790 ⟨(by decide : yL_value.cls ≠ "java/lang/invoke/MethodHandle"), (by decide : yL_value.cls ≠ "java/lang/invoke/VarHandle")⟩ (by decide +kernel : (parseMethodDescriptor yL_value.desc).map (fun d => d.parameters.length) = some 4) (Nat.le_of_ble_eq_true rfl) (Nat.le_of_ble_eq_true rfl) (by show kc + 20 + 3 ≤ kc + 40; omega) (by show ks + 500 + 18 ≤ ks + 1000; omega) (by exact (Nat.le_of_ble_eq_true rfl)) rfl (List.forall_mem_cons.mpr ⟨rfl, (List.forall_mem_cons.mpr ⟨rfl, (List.forall_mem_cons.mpr ⟨rfl, (List.forall_mem_cons.mpr ⟨rfl, fun _ h => nomatch h⟩)⟩)⟩)⟩) rfl dL_law_1126 (fun E w9 hq _ => by obtain ⟨c, z, -⟩ := hq; cases z) (fun r w9 hq _ => ?_)
  obtain ⟨c9, e9, ⟨fs9, h12⟩, hA⟩ := hq
  cases e9
  refine r_istore (pc := 1129) dL_law_1129 (Nat.le_of_ble_eq_true rfl) rfl ?_
  refine r_aload_n (pc := 1131) dL_law_1131 rfl rfl ?_
  refine r_aload_nX (pc := 1132) dL_law_1132 rfl rfl ?_
  refine r_iload (pc := 1133) dL_law_1133 rfl ?_
  refine r_iconst (pc := 1135) (v := 1) dL_law_1135 (by decide) ?_
  refine r_iadd (pc := 1136) dL_law_1136 ?_
  rw [show nI i + 1 = nI (i + 1) from nI_add i 1]
  refine r_sld (pc := 1137) (vp_in_nI (by omega) (by omega)) dL_law_1137 ?_
  refine r_aload_nX (pc := 1138) dL_law_1138 rfl rfl ?_
  refine r_iload (pc := 1139) dL_law_1139 rfl ?_
  refine r_iconst (pc := 1141) (v := 2) dL_law_1141 (by decide) ?_
  refine r_iadd (pc := 1142) dL_law_1142 ?_
  rw [show nI i + 2 = nI (i + 2) from nI_add i 2]
  refine r_sld (pc := 1143) (vp_in_nI (by omega) (by omega)) dL_law_1143 ?_
  refine s_L_163 (pc := 1144) (kc' := kc + 10) (ks' := ks + 100) rfl rfl hA h12 (Nat.le_of_ble_eq_true rfl) (Nat.le_of_ble_eq_true rfl) (by show kc + 10 + 0 ≤ kc + 20; omega) (by show ks + 100 + 0 ≤ ks + 500; omega) (by exact (Nat.le_of_ble_eq_true rfl)) rfl (List.forall_mem_cons.mpr ⟨rfl, (List.forall_mem_cons.mpr ⟨rfl, (List.forall_mem_cons.mpr ⟨rfl, fun _ h => nomatch h⟩)⟩)⟩) rfl dL_law_1144 (fun E w8 hq _ => by obtain ⟨b, z, -⟩ := hq; cases z) (fun r w8 hq _ => ?_)
  obtain ⟨b9, e9, hJ⟩ := hq
  cases e9
  obtain ⟨f9, h30, hf9⟩ := LJ_30 hJ
  obtain ⟨fs8, h12⟩ := LJ_12 hJ
  refine r_istore (pc := 1147) dL_law_1147 (Nat.le_of_ble_eq_true rfl) rfl ?_
  refine r_aload_n (pc := 1149) dL_law_1149 rfl rfl ?_
  refine s_L_96 (pc := 1150) (kc' := kc) (ks' := ks) rfl rfl (LJ_thr hJ) h12 (Nat.le_of_ble_eq_true rfl) (Nat.le_of_ble_eq_true rfl) (by show kc + 0 ≤ kc + 10; omega) (by show ks + 0 ≤ ks + 100; omega) (by exact (Nat.le_of_ble_eq_true rfl)) rfl (List.forall_mem_cons.mpr ⟨rfl, fun _ h => nomatch h⟩) rfl dL_law_1150 aw_kt (aw_kq ?_)
  refine r_iload (pc := 1153) dL_law_1153 rfl ?_
  refine r_icmp_eq (pc := 1155) (tgt := 1160) dL_law_1155 (by decide) (fun h1155 => ?_) (fun h => absurd rfl h)
  refine r_iload (pc := 1160) dL_law_1160 rfl ?_
  refine r_if_ne (pc := 1162) (tgt := 1177) dL_law_1162 (by decide) (fun h1162 => ?_) (fun h1162 => ?_)
  · refine r_goto (pc := 1177) (tgt := 1556) dL_law_1177 (by decide) ?_
    refine AW_weak (kc' := kc) (ks' := ks) (by omega) (by omega) (fun _ _ z => z) ?_
    refine AW_drop 6 rfl ?_
    refine AW_drop 5 rfl ?_
    exact kk _ (LJ_X hJ)
  · refine r_aload_n (pc := 1165) dL_law_1165 rfl rfl ?_
    refine r_iconst (pc := 1166) (v := 0) dL_law_1166 (by decide) ?_
    refine r_laload (pc := 1167) h30 (vp_in_nI (n := 0) (N := 1) (by decide) (by decide)) dL_law_1167 ?_
    rw [show f9 (Int32.toNatClampNeg 0) = vlI b9 from hf9 h1162]
    refine r_iload (pc := 1168) dL_law_1168 rfl ?_
    refine r_i2l (pc := 1170) dL_law_1170 ?_
    rw [show vlI b9 = b9.toInt64 from rfl]
    refine r_lcmp (pc := 1171) dL_law_1171 ?_
    rw [lg_same]
    refine r_if_eq (pc := 1172) (tgt := 1177) dL_law_1172 (by decide) (fun h1172 => ?_) (fun h => absurd rfl h)
    refine r_goto (pc := 1177) (tgt := 1556) dL_law_1177 (by decide) ?_
    refine AW_weak (kc' := kc) (ks' := ks) (by omega) (by omega) (fun _ _ z => z) ?_
    refine AW_drop 6 rfl ?_
    refine AW_drop 5 rfl ?_
    exact kk _ (LJ_X hJ)
set_option maxRecDepth 100000 in
set_option maxHeartbeats 4000000 in
theorem lc_20 {G : aw_G} (hN : aw_nc G) {w : List va_E} (hX : LX w) {i kc ks : Nat} (hi : i + 4 ≤ G.2.2.2.2.2.2.2.1) (hL9 : G.2.2.2.2.2.2.2.1 ≤ 2048) {Q : aw_R → List va_E → Prop} (kk : ∀ w', LX w' → AW G fL_law kc ks w' 1556 [some (.float 0), some (.ref 0), some (.ref 12), some (.ref 30), some (.int (nI i)), none, none] [] Q) : AW G fL_law (kc + 40) (ks + 1000) w 1180 [some (.float 0), some (.ref 0), some (.ref 12), some (.ref 30), some (.int (nI i)), none, none] [] Q := by
  obtain ⟨ow, tn, vn, an, R, vv, sc, ar, fo, hLI⟩ := id hX
  have h0 := hLI.2.1.1.choose_spec.choose_spec.choose_spec.choose_spec.choose_spec.choose_spec.choose_spec.1.1.2
  refine r_aload_n (pc := 1180) dL_law_1180 rfl rfl ?_
  refine r_aload_nX (pc := 1181) dL_law_1181 rfl rfl ?_
  refine r_iload (pc := 1182) dL_law_1182 rfl ?_
  refine r_iconst (pc := 1184) (v := 1) dL_law_1184 (by decide) ?_
  refine r_iadd (pc := 1185) dL_law_1185 ?_
  rw [show nI i + 1 = nI (i + 1) from nI_add i 1]
  refine r_sld (pc := 1186) (vp_in_nI (by omega) (by omega)) dL_law_1186 ?_
  refine r_aload_n (pc := 1187) dL_law_1187 rfl rfl ?_
  refine r_callSH (pc := 1188) (n := 3) (kc' := kc + 20) (ks' := ks + 500) (rest := []) (cs_of hLI.1 (by decide +kernel) (al_refusal hN h0 (nx_refusal hLI _) (lE_of hLI.1))) rfl rfl kwL_refusal tw_51 tw_803 tw_804 ⟨(by decide : yL_refusal.cls ≠ "java/lang/invoke/MethodHandle"), (by decide : yL_refusal.cls ≠ "java/lang/invoke/VarHandle")⟩ (by decide +kernel : (parseMethodDescriptor yL_refusal.desc).map (fun d => d.parameters.length) = some 3) (Nat.le_of_ble_eq_true rfl) (Nat.le_of_ble_eq_true rfl) (by show kc + 20 + 2 ≤ kc + 40; omega) (by show ks + 500 + 12 ≤ ks + 1000; omega) (by exact (Nat.le_of_ble_eq_true rfl)) rfl (List.forall_mem_cons.mpr ⟨rfl, (List.forall_mem_cons.mpr ⟨rfl, (List.forall_mem_cons.mpr ⟨rfl, fun _ h => nomatch h⟩)⟩)⟩) rfl dL_law_1188 (fun E w9 hq _ => by obtain ⟨c, z, -⟩ := hq; cases z) (fun r w9 hq _ => ?_)
  obtain ⟨c9, e9, ⟨fs9, h12⟩, hA⟩ := hq
  cases e9
  refine r_istore (pc := 1191) dL_law_1191 (Nat.le_of_ble_eq_true rfl) rfl ?_
  refine r_aload_n (pc := 1193) dL_law_1193 rfl rfl ?_
  refine r_aload_nX (pc := 1194) dL_law_1194 rfl rfl ?_
  refine r_iload (pc := 1195) dL_law_1195 rfl ?_
  refine r_iconst (pc := 1197) (v := 1) dL_law_1197 (by decide) ?_
  refine r_iadd (pc := 1198) dL_law_1198 ?_
  rw [show nI i + 1 = nI (i + 1) from nI_add i 1]
  refine r_sld (pc := 1199) (vp_in_nI (by omega) (by omega)) dL_law_1199 ?_
  refine s_L_166 (pc := 1200) (kc' := kc + 10) (ks' := ks + 100) rfl rfl hA h12 (Nat.le_of_ble_eq_true rfl) (Nat.le_of_ble_eq_true rfl) (by show kc + 10 + 0 ≤ kc + 20; omega) (by show ks + 100 + 0 ≤ ks + 500; omega) (by exact (Nat.le_of_ble_eq_true rfl)) rfl (List.forall_mem_cons.mpr ⟨rfl, (List.forall_mem_cons.mpr ⟨rfl, fun _ h => nomatch h⟩)⟩) rfl dL_law_1200 (fun E w8 hq _ => by obtain ⟨b, z, -⟩ := hq; cases z) (fun r w8 hq _ => ?_)
  obtain ⟨b9, e9, hJ⟩ := hq
  cases e9
  obtain ⟨f9, h30, hf9⟩ := LJ_30 hJ
  obtain ⟨fs8, h12⟩ := LJ_12 hJ
  refine r_istore (pc := 1203) dL_law_1203 (Nat.le_of_ble_eq_true rfl) rfl ?_
  refine r_aload_n (pc := 1205) dL_law_1205 rfl rfl ?_
  refine s_L_96 (pc := 1206) (kc' := kc) (ks' := ks) rfl rfl (LJ_thr hJ) h12 (Nat.le_of_ble_eq_true rfl) (Nat.le_of_ble_eq_true rfl) (by show kc + 0 ≤ kc + 10; omega) (by show ks + 0 ≤ ks + 100; omega) (by exact (Nat.le_of_ble_eq_true rfl)) rfl (List.forall_mem_cons.mpr ⟨rfl, fun _ h => nomatch h⟩) rfl dL_law_1206 aw_kt (aw_kq ?_)
  refine r_iload (pc := 1209) dL_law_1209 rfl ?_
  refine r_icmp_eq (pc := 1211) (tgt := 1216) dL_law_1211 (by decide) (fun h1211 => ?_) (fun h => absurd rfl h)
  refine r_iload (pc := 1216) dL_law_1216 rfl ?_
  refine r_if_ne (pc := 1218) (tgt := 1233) dL_law_1218 (by decide) (fun h1218 => ?_) (fun h1218 => ?_)
  · refine r_goto (pc := 1233) (tgt := 1556) dL_law_1233 (by decide) ?_
    refine AW_weak (kc' := kc) (ks' := ks) (by omega) (by omega) (fun _ _ z => z) ?_
    refine AW_drop 6 rfl ?_
    refine AW_drop 5 rfl ?_
    exact kk _ (LJ_X hJ)
  · refine r_aload_n (pc := 1221) dL_law_1221 rfl rfl ?_
    refine r_iconst (pc := 1222) (v := 0) dL_law_1222 (by decide) ?_
    refine r_laload (pc := 1223) h30 (vp_in_nI (n := 0) (N := 1) (by decide) (by decide)) dL_law_1223 ?_
    rw [show f9 (Int32.toNatClampNeg 0) = vlI b9 from hf9 h1218]
    refine r_iload (pc := 1224) dL_law_1224 rfl ?_
    refine r_i2l (pc := 1226) dL_law_1226 ?_
    rw [show vlI b9 = b9.toInt64 from rfl]
    refine r_lcmp (pc := 1227) dL_law_1227 ?_
    rw [lg_same]
    refine r_if_eq (pc := 1228) (tgt := 1233) dL_law_1228 (by decide) (fun h1228 => ?_) (fun h => absurd rfl h)
    refine r_goto (pc := 1233) (tgt := 1556) dL_law_1233 (by decide) ?_
    refine AW_weak (kc' := kc) (ks' := ks) (by omega) (by omega) (fun _ _ z => z) ?_
    refine AW_drop 6 rfl ?_
    refine AW_drop 5 rfl ?_
    exact kk _ (LJ_X hJ)
set_option maxRecDepth 100000 in
set_option maxHeartbeats 4000000 in
theorem lc_21 {G : aw_G} (hN : aw_nc G) {w : List va_E} (hX : LX w) {i kc ks : Nat} (hi : i + 4 ≤ G.2.2.2.2.2.2.2.1) (hL9 : G.2.2.2.2.2.2.2.1 ≤ 2048) {Q : aw_R → List va_E → Prop} (kk : ∀ w', LX w' → AW G fL_law kc ks w' 1556 [some (.float 0), some (.ref 0), some (.ref 12), some (.ref 30), some (.int (nI i)), none, none] [] Q) : AW G fL_law (kc + 40) (ks + 1000) w 1236 [some (.float 0), some (.ref 0), some (.ref 12), some (.ref 30), some (.int (nI i)), none, none] [] Q := by
  obtain ⟨ow, tn, vn, an, R, vv, sc, ar, fo, hLI⟩ := id hX
  have h0 := hLI.2.1.1.choose_spec.choose_spec.choose_spec.choose_spec.choose_spec.choose_spec.choose_spec.1.1.2
  refine r_aload_n (pc := 1236) dL_law_1236 rfl rfl ?_
  refine s_L_167 (pc := 1237) (kc' := kc + 20) (ks' := ks + 500) rfl rfl (ds_of (cd := cd1) hLI.1 (nx_counted hLI)) h0 (Nat.le_of_ble_eq_true rfl) (Nat.le_of_ble_eq_true rfl) (by show kc + 20 + 0 ≤ kc + 40; omega) (by show ks + 500 + 0 ≤ ks + 1000; omega) (by exact (Nat.le_of_ble_eq_true rfl)) rfl (List.forall_mem_cons.mpr ⟨rfl, fun _ h => nomatch h⟩) rfl dL_law_1237 (fun E w9 hq _ => by obtain ⟨v, z, -⟩ := hq; cases z) (fun r w9 hq _ => ?_)
  obtain ⟨v9, e9, ⟨fs9, h12⟩, hA⟩ := hq
  cases e9
  refine r_aload_n (pc := 1240) dL_law_1240 rfl rfl ?_
  refine s_L_170 (pc := 1241) (kc' := kc + 10) (ks' := ks + 100) rfl rfl hA h12 (Nat.le_of_ble_eq_true rfl) (Nat.le_of_ble_eq_true rfl) (by show kc + 10 + 0 ≤ kc + 20; omega) (by show ks + 100 + 0 ≤ ks + 500; omega) (by exact (Nat.le_of_ble_eq_true rfl)) rfl (List.forall_mem_cons.mpr ⟨rfl, fun _ h => nomatch h⟩) rfl dL_law_1241 (fun E w8 hq _ => by obtain ⟨z, -⟩ := hq; cases z) (fun r w8 hq _ => ?_)
  obtain ⟨e9, x9, hJ⟩ := hq
  cases e9
  refine r_icmp_eq (pc := 1244) (tgt := 1556) dL_law_1244 (by decide) (fun h1244 => ?_) (fun h => absurd rfl h)
  refine AW_weak (kc' := kc) (ks' := ks) (by omega) (by omega) (fun _ _ z => z) ?_
  exact kk _ (LJ_X hJ)
set_option maxRecDepth 100000 in
set_option maxHeartbeats 4000000 in
theorem lc_22 {G : aw_G} (hN : aw_nc G) {w : List va_E} (hX : LX w) {i kc ks : Nat} (hi : i + 4 ≤ G.2.2.2.2.2.2.2.1) (hL9 : G.2.2.2.2.2.2.2.1 ≤ 2048) {Q : aw_R → List va_E → Prop} (kk : ∀ w', LX w' → AW G fL_law kc ks w' 1556 [some (.float 0), some (.ref 0), some (.ref 12), some (.ref 30), some (.int (nI i)), none, none] [] Q) : AW G fL_law (kc + 40) (ks + 1000) w 1249 [some (.float 0), some (.ref 0), some (.ref 12), some (.ref 30), some (.int (nI i)), none, none] [] Q := by
  obtain ⟨ow, tn, vn, an, R, vv, sc, ar, fo, hLI⟩ := id hX
  have h0 := hLI.2.1.1.choose_spec.choose_spec.choose_spec.choose_spec.choose_spec.choose_spec.choose_spec.1.1.2
  refine r_aload_n (pc := 1249) dL_law_1249 rfl rfl ?_
  refine r_aload_nX (pc := 1250) dL_law_1250 rfl rfl ?_
  refine r_iload (pc := 1251) dL_law_1251 rfl ?_
  refine r_iconst (pc := 1253) (v := 1) dL_law_1253 (by decide) ?_
  refine r_iadd (pc := 1254) dL_law_1254 ?_
  rw [show nI i + 1 = nI (i + 1) from nI_add i 1]
  refine r_sld (pc := 1255) (vp_in_nI (by omega) (by omega)) dL_law_1255 ?_
  refine r_aload_nX (pc := 1256) dL_law_1256 rfl rfl ?_
  refine r_iload (pc := 1257) dL_law_1257 rfl ?_
  refine r_iconst (pc := 1259) (v := 2) dL_law_1259 (by decide) ?_
  refine r_iadd (pc := 1260) dL_law_1260 ?_
  rw [show nI i + 2 = nI (i + 2) from nI_add i 2]
  refine r_sld (pc := 1261) (vp_in_nI (by omega) (by omega)) dL_law_1261 ?_
  refine r_aload_n (pc := 1262) dL_law_1262 rfl rfl ?_
  refine r_callSH (pc := 1263) (n := 4) (kc' := kc + 20) (ks' := ks + 500) (rest := []) (cs_of hLI.1 (by decide +kernel) (al_doubt hN h0 (nx_doubt hLI _ _) (lE_of hLI.1))) rfl rfl kwL_doubt tw_51 tw_812 tw_813 ⟨(by decide : yL_doubt.cls ≠ "java/lang/invoke/MethodHandle"), (by decide : yL_doubt.cls ≠ "java/lang/invoke/VarHandle")⟩ (by decide +kernel : (parseMethodDescriptor yL_doubt.desc).map (fun d => d.parameters.length) = some 4) (Nat.le_of_ble_eq_true rfl) (Nat.le_of_ble_eq_true rfl) (by show kc + 20 + 3 ≤ kc + 40; omega) (by show ks + 500 + 18 ≤ ks + 1000; omega) (by exact (Nat.le_of_ble_eq_true rfl)) rfl (List.forall_mem_cons.mpr ⟨rfl, (List.forall_mem_cons.mpr ⟨rfl, (List.forall_mem_cons.mpr ⟨rfl, (List.forall_mem_cons.mpr ⟨rfl, fun _ h => nomatch h⟩)⟩)⟩)⟩) rfl dL_law_1263 (fun E w9 hq _ => by obtain ⟨c, z, -⟩ := hq; cases z) (fun r w9 hq _ => ?_)
  obtain ⟨c9, e9, ⟨fs9, h12⟩, hA⟩ := hq
  cases e9
  refine r_istore (pc := 1266) dL_law_1266 (Nat.le_of_ble_eq_true rfl) rfl ?_
  refine r_aload_n (pc := 1268) dL_law_1268 rfl rfl ?_
  refine r_aload_nX (pc := 1269) dL_law_1269 rfl rfl ?_
  refine r_iload (pc := 1270) dL_law_1270 rfl ?_
  refine r_iconst (pc := 1272) (v := 1) dL_law_1272 (by decide) ?_
  refine r_iadd (pc := 1273) dL_law_1273 ?_
  rw [show nI i + 1 = nI (i + 1) from nI_add i 1]
  refine r_sld (pc := 1274) (vp_in_nI (by omega) (by omega)) dL_law_1274 ?_
  refine r_aload_nX (pc := 1275) dL_law_1275 rfl rfl ?_
  refine r_iload (pc := 1276) dL_law_1276 rfl ?_
  refine r_iconst (pc := 1278) (v := 2) dL_law_1278 (by decide) ?_
  refine r_iadd (pc := 1279) dL_law_1279 ?_
  rw [show nI i + 2 = nI (i + 2) from nI_add i 2]
  refine r_sld (pc := 1280) (vp_in_nI (by omega) (by omega)) dL_law_1280 ?_
  refine s_L_173 (pc := 1281) (kc' := kc + 10) (ks' := ks + 100) rfl rfl hA h12 (Nat.le_of_ble_eq_true rfl) (Nat.le_of_ble_eq_true rfl) (by show kc + 10 + 0 ≤ kc + 20; omega) (by show ks + 100 + 0 ≤ ks + 500; omega) (by exact (Nat.le_of_ble_eq_true rfl)) rfl (List.forall_mem_cons.mpr ⟨rfl, (List.forall_mem_cons.mpr ⟨rfl, (List.forall_mem_cons.mpr ⟨rfl, fun _ h => nomatch h⟩)⟩)⟩) rfl dL_law_1281 (fun E w8 hq _ => by obtain ⟨b, z, -⟩ := hq; cases z) (fun r w8 hq _ => ?_)
  obtain ⟨b9, e9, hJ⟩ := hq
  cases e9
  obtain ⟨f9, h30, hf9⟩ := LJ_30 hJ
  obtain ⟨fs8, h12⟩ := LJ_12 hJ
  refine r_istore (pc := 1284) dL_law_1284 (Nat.le_of_ble_eq_true rfl) rfl ?_
  refine r_aload_n (pc := 1286) dL_law_1286 rfl rfl ?_
  refine s_L_96 (pc := 1287) (kc' := kc) (ks' := ks) rfl rfl (LJ_thr hJ) h12 (Nat.le_of_ble_eq_true rfl) (Nat.le_of_ble_eq_true rfl) (by show kc + 0 ≤ kc + 10; omega) (by show ks + 0 ≤ ks + 100; omega) (by exact (Nat.le_of_ble_eq_true rfl)) rfl (List.forall_mem_cons.mpr ⟨rfl, fun _ h => nomatch h⟩) rfl dL_law_1287 aw_kt (aw_kq ?_)
  refine r_iload (pc := 1290) dL_law_1290 rfl ?_
  refine r_icmp_eq (pc := 1292) (tgt := 1297) dL_law_1292 (by decide) (fun h1292 => ?_) (fun h => absurd rfl h)
  refine r_iload (pc := 1297) dL_law_1297 rfl ?_
  refine r_if_ne (pc := 1299) (tgt := 1321) dL_law_1299 (by decide) (fun h1299 => ?_) (fun h1299 => ?_)
  · refine r_goto (pc := 1321) (tgt := 1556) dL_law_1321 (by decide) ?_
    refine AW_weak (kc' := kc) (ks' := ks) (by omega) (by omega) (fun _ _ z => z) ?_
    refine AW_drop 6 rfl ?_
    refine AW_drop 5 rfl ?_
    exact kk _ (LJ_X hJ)
  · refine r_aload_n (pc := 1302) dL_law_1302 rfl rfl ?_
    refine r_iconst (pc := 1303) (v := 0) dL_law_1303 (by decide) ?_
    refine r_laload (pc := 1304) h30 (vp_in_nI (n := 0) (N := 1) (by decide) (by decide)) dL_law_1304 ?_
    rw [show f9 (Int32.toNatClampNeg 0) = vlB b9 from hf9 h1299]
    refine r_iload (pc := 1305) dL_law_1305 rfl ?_
    refine r_if_eq (pc := 1307) (tgt := 1314) dL_law_1307 (by decide) (fun h1307 => ?_) (fun h1307 => ?_)
    · refine r_lconst (pc := 1314) (v := 0) dL_law_1314 rfl ?_
      rw [show vlB b9 = 0 from if_pos h1307]
      refine r_lcmp (pc := 1315) dL_law_1315 ?_
      rw [lg_same]
      refine r_if_eq (pc := 1316) (tgt := 1321) dL_law_1316 (by decide) (fun h1316 => ?_) (fun h => absurd rfl h)
      refine r_goto (pc := 1321) (tgt := 1556) dL_law_1321 (by decide) ?_
      refine AW_weak (kc' := kc) (ks' := ks) (by omega) (by omega) (fun _ _ z => z) ?_
      refine AW_drop 6 rfl ?_
      refine AW_drop 5 rfl ?_
      exact kk _ (LJ_X hJ)
    · refine r_lconst (pc := 1310) (v := 1) dL_law_1310 rfl ?_
      refine r_goto (pc := 1311) (tgt := 1315) dL_law_1311 (by decide) ?_
      rw [show vlB b9 = 1 from if_neg h1307]
      refine r_lcmp (pc := 1315) dL_law_1315 ?_
      rw [lg_same]
      refine r_if_eq (pc := 1316) (tgt := 1321) dL_law_1316 (by decide) (fun h1316 => ?_) (fun h => absurd rfl h)
      refine r_goto (pc := 1321) (tgt := 1556) dL_law_1321 (by decide) ?_
      refine AW_weak (kc' := kc) (ks' := ks) (by omega) (by omega) (fun _ _ z => z) ?_
      refine AW_drop 6 rfl ?_
      refine AW_drop 5 rfl ?_
      exact kk _ (LJ_X hJ)
set_option maxRecDepth 100000 in
set_option maxHeartbeats 4000000 in
theorem lc_23 {G : aw_G} (hN : aw_nc G) {w : List va_E} (hX : LX w) {i kc ks : Nat} (hi : i + 4 ≤ G.2.2.2.2.2.2.2.1) (hL9 : G.2.2.2.2.2.2.2.1 ≤ 2048) {Q : aw_R → List va_E → Prop} (kk : ∀ w', LX w' → AW G fL_law kc ks w' 1556 [some (.float 0), some (.ref 0), some (.ref 12), some (.ref 30), some (.int (nI i)), none, none] [] Q) : AW G fL_law (kc + 40) (ks + 1000) w 1324 [some (.float 0), some (.ref 0), some (.ref 12), some (.ref 30), some (.int (nI i)), none, none] [] Q := by
  obtain ⟨ow, tn, vn, an, R, vv, sc, ar, fo, hLI⟩ := id hX
  have h0 := hLI.2.1.1.choose_spec.choose_spec.choose_spec.choose_spec.choose_spec.choose_spec.choose_spec.1.1.2
  refine r_aload_n (pc := 1324) dL_law_1324 rfl rfl ?_
  refine r_aload_nX (pc := 1325) dL_law_1325 rfl rfl ?_
  refine r_iload (pc := 1326) dL_law_1326 rfl ?_
  refine r_iconst (pc := 1328) (v := 1) dL_law_1328 (by decide) ?_
  refine r_iadd (pc := 1329) dL_law_1329 ?_
  rw [show nI i + 1 = nI (i + 1) from nI_add i 1]
  refine r_sld (pc := 1330) (vp_in_nI (by omega) (by omega)) dL_law_1330 ?_
  refine r_aload_nX (pc := 1331) dL_law_1331 rfl rfl ?_
  refine r_iload (pc := 1332) dL_law_1332 rfl ?_
  refine r_iconst (pc := 1334) (v := 2) dL_law_1334 (by decide) ?_
  refine r_iadd (pc := 1335) dL_law_1335 ?_
  rw [show nI i + 2 = nI (i + 2) from nI_add i 2]
  refine r_sld (pc := 1336) (vp_in_nI (by omega) (by omega)) dL_law_1336 ?_
  refine r_aload_nX (pc := 1337) dL_law_1337 rfl rfl ?_
  refine r_iload (pc := 1338) dL_law_1338 rfl ?_
  refine r_iconst (pc := 1340) (v := 3) dL_law_1340 (by decide) ?_
  refine r_iadd (pc := 1341) dL_law_1341 ?_
  rw [show nI i + 3 = nI (i + 3) from nI_add i 3]
  refine r_sld (pc := 1342) (vp_in_nI (by omega) (by omega)) dL_law_1342 ?_
  refine r_if_eq (pc := 1343) (tgt := 1350) dL_law_1343 (by decide) (fun h1343 => ?_) (fun h1343 => ?_)
  · refine r_iconst (pc := 1350) (v := 0) dL_law_1350 (by decide) ?_
    refine r_aload_n (pc := 1351) dL_law_1351 rfl rfl ?_
    refine r_callSH (pc := 1352) (n := 5) (kc' := kc + 20) (ks' := ks + 500) (rest := []) (cs_of hLI.1 (by decide +kernel) (al_settle hN h0 (nx_settle hLI _ _ _) (lE_of hLI.1))) rfl rfl kwL_settle tw_51 tw_828 tw_829 ⟨(by decide : yL_settle.cls ≠ "java/lang/invoke/MethodHandle"), (by decide : yL_settle.cls ≠ "java/lang/invoke/VarHandle")⟩ (by decide +kernel : (parseMethodDescriptor yL_settle.desc).map (fun d => d.parameters.length) = some 5) (Nat.le_of_ble_eq_true rfl) (Nat.le_of_ble_eq_true rfl) (by show kc + 20 + 3 ≤ kc + 40; omega) (by show ks + 500 + 18 ≤ ks + 1000; omega) (by exact (Nat.le_of_ble_eq_true rfl)) rfl (List.forall_mem_cons.mpr ⟨rfl, (List.forall_mem_cons.mpr ⟨rfl, (List.forall_mem_cons.mpr ⟨rfl, (List.forall_mem_cons.mpr ⟨rfl, (List.forall_mem_cons.mpr ⟨rfl, fun _ h => nomatch h⟩)⟩)⟩)⟩)⟩) rfl dL_law_1352 (fun E w9 hq _ => by obtain ⟨c, z, -⟩ := hq; cases z) (fun r w9 hq _ => ?_)
    obtain ⟨c9, e9, ⟨fs9, h12⟩, hA⟩ := hq
    cases e9
    refine r_istore (pc := 1355) dL_law_1355 (Nat.le_of_ble_eq_true rfl) rfl ?_
    refine r_aload_n (pc := 1357) dL_law_1357 rfl rfl ?_
    refine r_aload_nX (pc := 1358) dL_law_1358 rfl rfl ?_
    refine r_iload (pc := 1359) dL_law_1359 rfl ?_
    refine r_iconst (pc := 1361) (v := 1) dL_law_1361 (by decide) ?_
    refine r_iadd (pc := 1362) dL_law_1362 ?_
    rw [show nI i + 1 = nI (i + 1) from nI_add i 1]
    refine r_sld (pc := 1363) (vp_in_nI (by omega) (by omega)) dL_law_1363 ?_
    refine r_aload_nX (pc := 1364) dL_law_1364 rfl rfl ?_
    refine r_iload (pc := 1365) dL_law_1365 rfl ?_
    refine r_iconst (pc := 1367) (v := 2) dL_law_1367 (by decide) ?_
    refine r_iadd (pc := 1368) dL_law_1368 ?_
    rw [show nI i + 2 = nI (i + 2) from nI_add i 2]
    refine r_sld (pc := 1369) (vp_in_nI (by omega) (by omega)) dL_law_1369 ?_
    refine r_aload_nX (pc := 1370) dL_law_1370 rfl rfl ?_
    refine r_iload (pc := 1371) dL_law_1371 rfl ?_
    refine r_iconst (pc := 1373) (v := 3) dL_law_1373 (by decide) ?_
    refine r_iadd (pc := 1374) dL_law_1374 ?_
    rw [show nI i + 3 = nI (i + 3) from nI_add i 3]
    refine r_sld (pc := 1375) (vp_in_nI (by omega) (by omega)) dL_law_1375 ?_
    refine r_if_eq (pc := 1376) (tgt := 1383) dL_law_1376 (by decide) (fun h1376 => ?_) (fun h => absurd h1343 h)
    refine r_iconst (pc := 1383) (v := 0) dL_law_1383 (by decide) ?_
    refine s_L_177 (pc := 1384) (kc' := kc + 10) (ks' := ks + 100) rfl rfl hA h12 (Nat.le_of_ble_eq_true rfl) (Nat.le_of_ble_eq_true rfl) (by show kc + 10 + 0 ≤ kc + 20; omega) (by show ks + 100 + 0 ≤ ks + 500; omega) (by exact (Nat.le_of_ble_eq_true rfl)) rfl (List.forall_mem_cons.mpr ⟨rfl, (List.forall_mem_cons.mpr ⟨rfl, (List.forall_mem_cons.mpr ⟨rfl, (List.forall_mem_cons.mpr ⟨rfl, fun _ h => nomatch h⟩)⟩)⟩)⟩) rfl dL_law_1384 (fun E w8 hq _ => by obtain ⟨b, z, -⟩ := hq; cases z) (fun r w8 hq _ => ?_)
    obtain ⟨b9, e9, hJ⟩ := hq
    cases e9
    obtain ⟨f9, h30, hf9⟩ := LJ_30 hJ
    obtain ⟨fs8, h12⟩ := LJ_12 hJ
    refine r_istore (pc := 1387) dL_law_1387 (Nat.le_of_ble_eq_true rfl) rfl ?_
    refine r_aload_n (pc := 1389) dL_law_1389 rfl rfl ?_
    refine s_L_96 (pc := 1390) (kc' := kc) (ks' := ks) rfl rfl (LJ_thr hJ) h12 (Nat.le_of_ble_eq_true rfl) (Nat.le_of_ble_eq_true rfl) (by show kc + 0 ≤ kc + 10; omega) (by show ks + 0 ≤ ks + 100; omega) (by exact (Nat.le_of_ble_eq_true rfl)) rfl (List.forall_mem_cons.mpr ⟨rfl, fun _ h => nomatch h⟩) rfl dL_law_1390 aw_kt (aw_kq ?_)
    refine r_iload (pc := 1393) dL_law_1393 rfl ?_
    refine r_icmp_eq (pc := 1395) (tgt := 1400) dL_law_1395 (by decide) (fun h1395 => ?_) (fun h => absurd rfl h)
    refine r_iload (pc := 1400) dL_law_1400 rfl ?_
    refine r_if_ne (pc := 1402) (tgt := 1417) dL_law_1402 (by decide) (fun h1402 => ?_) (fun h1402 => ?_)
    · refine r_goto (pc := 1417) (tgt := 1556) dL_law_1417 (by decide) ?_
      refine AW_weak (kc' := kc) (ks' := ks) (by omega) (by omega) (fun _ _ z => z) ?_
      refine AW_drop 6 rfl ?_
      refine AW_drop 5 rfl ?_
      exact kk _ (LJ_X hJ)
    · refine r_aload_n (pc := 1405) dL_law_1405 rfl rfl ?_
      refine r_iconst (pc := 1406) (v := 0) dL_law_1406 (by decide) ?_
      refine r_laload (pc := 1407) h30 (vp_in_nI (n := 0) (N := 1) (by decide) (by decide)) dL_law_1407 ?_
      rw [show f9 (Int32.toNatClampNeg 0) = vlI b9 from hf9 h1402]
      refine r_iload (pc := 1408) dL_law_1408 rfl ?_
      refine r_i2l (pc := 1410) dL_law_1410 ?_
      rw [show vlI b9 = b9.toInt64 from rfl]
      refine r_lcmp (pc := 1411) dL_law_1411 ?_
      rw [lg_same]
      refine r_if_eq (pc := 1412) (tgt := 1417) dL_law_1412 (by decide) (fun h1412 => ?_) (fun h => absurd rfl h)
      refine r_goto (pc := 1417) (tgt := 1556) dL_law_1417 (by decide) ?_
      refine AW_weak (kc' := kc) (ks' := ks) (by omega) (by omega) (fun _ _ z => z) ?_
      refine AW_drop 6 rfl ?_
      refine AW_drop 5 rfl ?_
      exact kk _ (LJ_X hJ)
  · refine r_iconst (pc := 1346) (v := 1) dL_law_1346 (by decide) ?_
    refine r_goto (pc := 1347) (tgt := 1351) dL_law_1347 (by decide) ?_
    refine r_aload_n (pc := 1351) dL_law_1351 rfl rfl ?_
    refine r_callSH (pc := 1352) (n := 5) (kc' := kc + 20) (ks' := ks + 500) (rest := []) (cs_of hLI.1 (by decide +kernel) (al_settle hN h0 (nx_settle hLI _ _ _) (lE_of hLI.1))) rfl rfl kwL_settle tw_51 tw_828 tw_829 ⟨(by decide : yL_settle.cls ≠ "java/lang/invoke/MethodHandle"), (by decide : yL_settle.cls ≠ "java/lang/invoke/VarHandle")⟩ (by decide +kernel : (parseMethodDescriptor yL_settle.desc).map (fun d => d.parameters.length) = some 5) (Nat.le_of_ble_eq_true rfl) (Nat.le_of_ble_eq_true rfl) (by show kc + 20 + 3 ≤ kc + 40; omega) (by show ks + 500 + 18 ≤ ks + 1000; omega) (by exact (Nat.le_of_ble_eq_true rfl)) rfl (List.forall_mem_cons.mpr ⟨rfl, (List.forall_mem_cons.mpr ⟨rfl, (List.forall_mem_cons.mpr ⟨rfl, (List.forall_mem_cons.mpr ⟨rfl, (List.forall_mem_cons.mpr ⟨rfl, fun _ h => nomatch h⟩)⟩)⟩)⟩)⟩) rfl dL_law_1352 (fun E w9 hq _ => by obtain ⟨c, z, -⟩ := hq; cases z) (fun r w9 hq _ => ?_)
    obtain ⟨c9, e9, ⟨fs9, h12⟩, hA⟩ := hq
    cases e9
    refine r_istore (pc := 1355) dL_law_1355 (Nat.le_of_ble_eq_true rfl) rfl ?_
    refine r_aload_n (pc := 1357) dL_law_1357 rfl rfl ?_
    refine r_aload_nX (pc := 1358) dL_law_1358 rfl rfl ?_
    refine r_iload (pc := 1359) dL_law_1359 rfl ?_
    refine r_iconst (pc := 1361) (v := 1) dL_law_1361 (by decide) ?_
    refine r_iadd (pc := 1362) dL_law_1362 ?_
    rw [show nI i + 1 = nI (i + 1) from nI_add i 1]
    refine r_sld (pc := 1363) (vp_in_nI (by omega) (by omega)) dL_law_1363 ?_
    refine r_aload_nX (pc := 1364) dL_law_1364 rfl rfl ?_
    refine r_iload (pc := 1365) dL_law_1365 rfl ?_
    refine r_iconst (pc := 1367) (v := 2) dL_law_1367 (by decide) ?_
    refine r_iadd (pc := 1368) dL_law_1368 ?_
    rw [show nI i + 2 = nI (i + 2) from nI_add i 2]
    refine r_sld (pc := 1369) (vp_in_nI (by omega) (by omega)) dL_law_1369 ?_
    refine r_aload_nX (pc := 1370) dL_law_1370 rfl rfl ?_
    refine r_iload (pc := 1371) dL_law_1371 rfl ?_
    refine r_iconst (pc := 1373) (v := 3) dL_law_1373 (by decide) ?_
    refine r_iadd (pc := 1374) dL_law_1374 ?_
    rw [show nI i + 3 = nI (i + 3) from nI_add i 3]
    refine r_sld (pc := 1375) (vp_in_nI (by omega) (by omega)) dL_law_1375 ?_
    refine r_if_eq (pc := 1376) (tgt := 1383) dL_law_1376 (by decide) (fun h => absurd h h1343) (fun h1376 => ?_)
    refine r_iconst (pc := 1379) (v := 1) dL_law_1379 (by decide) ?_
    refine r_goto (pc := 1380) (tgt := 1384) dL_law_1380 (by decide) ?_
    refine s_L_177 (pc := 1384) (kc' := kc + 10) (ks' := ks + 100) rfl rfl hA h12 (Nat.le_of_ble_eq_true rfl) (Nat.le_of_ble_eq_true rfl) (by show kc + 10 + 0 ≤ kc + 20; omega) (by show ks + 100 + 0 ≤ ks + 500; omega) (by exact (Nat.le_of_ble_eq_true rfl)) rfl (List.forall_mem_cons.mpr ⟨rfl, (List.forall_mem_cons.mpr ⟨rfl, (List.forall_mem_cons.mpr ⟨rfl, (List.forall_mem_cons.mpr ⟨rfl, fun _ h => nomatch h⟩)⟩)⟩)⟩) rfl dL_law_1384 (fun E w8 hq _ => by obtain ⟨b, z, -⟩ := hq; cases z) (fun r w8 hq _ => ?_)
    obtain ⟨b9, e9, hJ⟩ := hq
    cases e9
    obtain ⟨f9, h30, hf9⟩ := LJ_30 hJ
    obtain ⟨fs8, h12⟩ := LJ_12 hJ
    refine r_istore (pc := 1387) dL_law_1387 (Nat.le_of_ble_eq_true rfl) rfl ?_
    refine r_aload_n (pc := 1389) dL_law_1389 rfl rfl ?_
    refine s_L_96 (pc := 1390) (kc' := kc) (ks' := ks) rfl rfl (LJ_thr hJ) h12 (Nat.le_of_ble_eq_true rfl) (Nat.le_of_ble_eq_true rfl) (by show kc + 0 ≤ kc + 10; omega) (by show ks + 0 ≤ ks + 100; omega) (by exact (Nat.le_of_ble_eq_true rfl)) rfl (List.forall_mem_cons.mpr ⟨rfl, fun _ h => nomatch h⟩) rfl dL_law_1390 aw_kt (aw_kq ?_)
    refine r_iload (pc := 1393) dL_law_1393 rfl ?_
    refine r_icmp_eq (pc := 1395) (tgt := 1400) dL_law_1395 (by decide) (fun h1395 => ?_) (fun h => absurd rfl h)
    refine r_iload (pc := 1400) dL_law_1400 rfl ?_
    refine r_if_ne (pc := 1402) (tgt := 1417) dL_law_1402 (by decide) (fun h1402 => ?_) (fun h1402 => ?_)
    · refine r_goto (pc := 1417) (tgt := 1556) dL_law_1417 (by decide) ?_
      refine AW_weak (kc' := kc) (ks' := ks) (by omega) (by omega) (fun _ _ z => z) ?_
      refine AW_drop 6 rfl ?_
      refine AW_drop 5 rfl ?_
      exact kk _ (LJ_X hJ)
    · refine r_aload_n (pc := 1405) dL_law_1405 rfl rfl ?_
      refine r_iconst (pc := 1406) (v := 0) dL_law_1406 (by decide) ?_
      refine r_laload (pc := 1407) h30 (vp_in_nI (n := 0) (N := 1) (by decide) (by decide)) dL_law_1407 ?_
      rw [show f9 (Int32.toNatClampNeg 0) = vlI b9 from hf9 h1402]
      refine r_iload (pc := 1408) dL_law_1408 rfl ?_
      refine r_i2l (pc := 1410) dL_law_1410 ?_
      rw [show vlI b9 = b9.toInt64 from rfl]
      refine r_lcmp (pc := 1411) dL_law_1411 ?_
      rw [lg_same]
      refine r_if_eq (pc := 1412) (tgt := 1417) dL_law_1412 (by decide) (fun h1412 => ?_) (fun h => absurd rfl h)
      refine r_goto (pc := 1417) (tgt := 1556) dL_law_1417 (by decide) ?_
      refine AW_weak (kc' := kc) (ks' := ks) (by omega) (by omega) (fun _ _ z => z) ?_
      refine AW_drop 6 rfl ?_
      refine AW_drop 5 rfl ?_
      exact kk _ (LJ_X hJ)
set_option maxRecDepth 100000 in
set_option maxHeartbeats 4000000 in
theorem lc_24 {G : aw_G} (hN : aw_nc G) {w : List va_E} (hX : LX w) {i kc ks : Nat} (hi : i + 4 ≤ G.2.2.2.2.2.2.2.1) (hL9 : G.2.2.2.2.2.2.2.1 ≤ 2048) {Q : aw_R → List va_E → Prop} (kk : ∀ w', LX w' → AW G fL_law kc ks w' 1556 [some (.float 0), some (.ref 0), some (.ref 12), some (.ref 30), some (.int (nI i)), none, none] [] Q) : AW G fL_law (kc + 40) (ks + 1000) w 1420 [some (.float 0), some (.ref 0), some (.ref 12), some (.ref 30), some (.int (nI i)), none, none] [] Q := by
  obtain ⟨ow, tn, vn, an, R, vv, sc, ar, fo, hLI⟩ := id hX
  have h0 := hLI.2.1.1.choose_spec.choose_spec.choose_spec.choose_spec.choose_spec.choose_spec.choose_spec.1.1.2
  refine r_aload_n (pc := 1420) dL_law_1420 rfl rfl ?_
  refine r_aload_nX (pc := 1421) dL_law_1421 rfl rfl ?_
  refine r_iload (pc := 1422) dL_law_1422 rfl ?_
  refine r_iconst (pc := 1424) (v := 1) dL_law_1424 (by decide) ?_
  refine r_iadd (pc := 1425) dL_law_1425 ?_
  rw [show nI i + 1 = nI (i + 1) from nI_add i 1]
  refine r_sld (pc := 1426) (vp_in_nI (by omega) (by omega)) dL_law_1426 ?_
  refine r_aload_nX (pc := 1427) dL_law_1427 rfl rfl ?_
  refine r_iload (pc := 1428) dL_law_1428 rfl ?_
  refine r_iconst (pc := 1430) (v := 2) dL_law_1430 (by decide) ?_
  refine r_iadd (pc := 1431) dL_law_1431 ?_
  rw [show nI i + 2 = nI (i + 2) from nI_add i 2]
  refine r_sld (pc := 1432) (vp_in_nI (by omega) (by omega)) dL_law_1432 ?_
  refine r_aload_nX (pc := 1433) dL_law_1433 rfl rfl ?_
  refine r_iload (pc := 1434) dL_law_1434 rfl ?_
  refine r_iconst (pc := 1436) (v := 3) dL_law_1436 (by decide) ?_
  refine r_iadd (pc := 1437) dL_law_1437 ?_
  rw [show nI i + 3 = nI (i + 3) from nI_add i 3]
  refine r_sld (pc := 1438) (vp_in_nI (by omega) (by omega)) dL_law_1438 ?_
  refine r_aload_n (pc := 1439) dL_law_1439 rfl rfl ?_
  refine r_callSH (pc := 1440) (n := 5) (kc' := kc + 20) (ks' := ks + 500) (rest := []) (cs_of hLI.1 (by decide +kernel) (al_amend hN h0 (nx_amend hLI _ _ _) (lE_of hLI.1))) rfl rfl kwL_amend tw_51 tw_844 tw_845 ⟨(by decide : yL_amend.cls ≠ "java/lang/invoke/MethodHandle"), (by decide : yL_amend.cls ≠ "java/lang/invoke/VarHandle")⟩ (by decide +kernel : (parseMethodDescriptor yL_amend.desc).map (fun d => d.parameters.length) = some 5) (Nat.le_of_ble_eq_true rfl) (Nat.le_of_ble_eq_true rfl) (by show kc + 20 + 4 ≤ kc + 40; omega) (by show ks + 500 + 24 ≤ ks + 1000; omega) (by exact (Nat.le_of_ble_eq_true rfl)) rfl (List.forall_mem_cons.mpr ⟨rfl, (List.forall_mem_cons.mpr ⟨rfl, (List.forall_mem_cons.mpr ⟨rfl, (List.forall_mem_cons.mpr ⟨rfl, (List.forall_mem_cons.mpr ⟨rfl, fun _ h => nomatch h⟩)⟩)⟩)⟩)⟩) rfl dL_law_1440 (fun E w9 hq _ => by obtain ⟨c, z, -⟩ := hq; cases z) (fun r w9 hq _ => ?_)
  obtain ⟨c9, e9, ⟨fs9, h12⟩, hA⟩ := hq
  cases e9
  refine r_istore (pc := 1443) dL_law_1443 (Nat.le_of_ble_eq_true rfl) rfl ?_
  refine r_aload_n (pc := 1445) dL_law_1445 rfl rfl ?_
  refine r_aload_nX (pc := 1446) dL_law_1446 rfl rfl ?_
  refine r_iload (pc := 1447) dL_law_1447 rfl ?_
  refine r_iconst (pc := 1449) (v := 1) dL_law_1449 (by decide) ?_
  refine r_iadd (pc := 1450) dL_law_1450 ?_
  rw [show nI i + 1 = nI (i + 1) from nI_add i 1]
  refine r_sld (pc := 1451) (vp_in_nI (by omega) (by omega)) dL_law_1451 ?_
  refine r_aload_nX (pc := 1452) dL_law_1452 rfl rfl ?_
  refine r_iload (pc := 1453) dL_law_1453 rfl ?_
  refine r_iconst (pc := 1455) (v := 2) dL_law_1455 (by decide) ?_
  refine r_iadd (pc := 1456) dL_law_1456 ?_
  rw [show nI i + 2 = nI (i + 2) from nI_add i 2]
  refine r_sld (pc := 1457) (vp_in_nI (by omega) (by omega)) dL_law_1457 ?_
  refine r_aload_nX (pc := 1458) dL_law_1458 rfl rfl ?_
  refine r_iload (pc := 1459) dL_law_1459 rfl ?_
  refine r_iconst (pc := 1461) (v := 3) dL_law_1461 (by decide) ?_
  refine r_iadd (pc := 1462) dL_law_1462 ?_
  rw [show nI i + 3 = nI (i + 3) from nI_add i 3]
  refine r_sld (pc := 1463) (vp_in_nI (by omega) (by omega)) dL_law_1463 ?_
  refine s_L_180 (pc := 1464) (kc' := kc + 10) (ks' := ks + 100) rfl rfl hA h12 (Nat.le_of_ble_eq_true rfl) (Nat.le_of_ble_eq_true rfl) (by show kc + 10 + 0 ≤ kc + 20; omega) (by show ks + 100 + 0 ≤ ks + 500; omega) (by exact (Nat.le_of_ble_eq_true rfl)) rfl (List.forall_mem_cons.mpr ⟨rfl, (List.forall_mem_cons.mpr ⟨rfl, (List.forall_mem_cons.mpr ⟨rfl, (List.forall_mem_cons.mpr ⟨rfl, fun _ h => nomatch h⟩)⟩)⟩)⟩) rfl dL_law_1464 (fun E w8 hq _ => by obtain ⟨b, z, -⟩ := hq; cases z) (fun r w8 hq _ => ?_)
  obtain ⟨b9, e9, hJ⟩ := hq
  cases e9
  obtain ⟨f9, h30, hf9⟩ := LJ_30 hJ
  obtain ⟨fs8, h12⟩ := LJ_12 hJ
  refine r_istore (pc := 1467) dL_law_1467 (Nat.le_of_ble_eq_true rfl) rfl ?_
  refine r_aload_n (pc := 1469) dL_law_1469 rfl rfl ?_
  refine s_L_96 (pc := 1470) (kc' := kc) (ks' := ks) rfl rfl (LJ_thr hJ) h12 (Nat.le_of_ble_eq_true rfl) (Nat.le_of_ble_eq_true rfl) (by show kc + 0 ≤ kc + 10; omega) (by show ks + 0 ≤ ks + 100; omega) (by exact (Nat.le_of_ble_eq_true rfl)) rfl (List.forall_mem_cons.mpr ⟨rfl, fun _ h => nomatch h⟩) rfl dL_law_1470 aw_kt (aw_kq ?_)
  refine r_iload (pc := 1473) dL_law_1473 rfl ?_
  refine r_icmp_eq (pc := 1475) (tgt := 1480) dL_law_1475 (by decide) (fun h1475 => ?_) (fun h => absurd rfl h)
  refine r_iload (pc := 1480) dL_law_1480 rfl ?_
  refine r_if_ne (pc := 1482) (tgt := 1497) dL_law_1482 (by decide) (fun h1482 => ?_) (fun h1482 => ?_)
  · refine r_goto (pc := 1497) (tgt := 1556) dL_law_1497 (by decide) ?_
    refine AW_weak (kc' := kc) (ks' := ks) (by omega) (by omega) (fun _ _ z => z) ?_
    refine AW_drop 6 rfl ?_
    refine AW_drop 5 rfl ?_
    exact kk _ (LJ_X hJ)
  · refine r_aload_n (pc := 1485) dL_law_1485 rfl rfl ?_
    refine r_iconst (pc := 1486) (v := 0) dL_law_1486 (by decide) ?_
    refine r_laload (pc := 1487) h30 (vp_in_nI (n := 0) (N := 1) (by decide) (by decide)) dL_law_1487 ?_
    rw [show f9 (Int32.toNatClampNeg 0) = vlI b9 from hf9 h1482]
    refine r_iload (pc := 1488) dL_law_1488 rfl ?_
    refine r_i2l (pc := 1490) dL_law_1490 ?_
    rw [show vlI b9 = b9.toInt64 from rfl]
    refine r_lcmp (pc := 1491) dL_law_1491 ?_
    rw [lg_same]
    refine r_if_eq (pc := 1492) (tgt := 1497) dL_law_1492 (by decide) (fun h1492 => ?_) (fun h => absurd rfl h)
    refine r_goto (pc := 1497) (tgt := 1556) dL_law_1497 (by decide) ?_
    refine AW_weak (kc' := kc) (ks' := ks) (by omega) (by omega) (fun _ _ z => z) ?_
    refine AW_drop 6 rfl ?_
    refine AW_drop 5 rfl ?_
    exact kk _ (LJ_X hJ)
set_option maxRecDepth 100000 in
set_option maxHeartbeats 4000000 in
theorem lc_25 {G : aw_G} (hN : aw_nc G) {w : List va_E} (hX : LX w) {i kc ks : Nat} (hi : i + 4 ≤ G.2.2.2.2.2.2.2.1) (hL9 : G.2.2.2.2.2.2.2.1 ≤ 2048) {Q : aw_R → List va_E → Prop} (kk : ∀ w', LX w' → AW G fL_law kc ks w' 1556 [some (.float 0), some (.ref 0), some (.ref 12), some (.ref 30), some (.int (nI i)), none, none] [] Q) : AW G fL_law (kc + 40) (ks + 1000) w 1500 [some (.float 0), some (.ref 0), some (.ref 12), some (.ref 30), some (.int (nI i)), none, none] [] Q := by
  obtain ⟨ow, tn, vn, an, R, vv, sc, ar, fo, hLI⟩ := id hX
  have h0 := hLI.2.1.1.choose_spec.choose_spec.choose_spec.choose_spec.choose_spec.choose_spec.choose_spec.1.1.2
  refine r_aload_n (pc := 1500) dL_law_1500 rfl rfl ?_
  refine r_aload_nX (pc := 1501) dL_law_1501 rfl rfl ?_
  refine r_iload (pc := 1502) dL_law_1502 rfl ?_
  refine r_iconst (pc := 1504) (v := 1) dL_law_1504 (by decide) ?_
  refine r_iadd (pc := 1505) dL_law_1505 ?_
  rw [show nI i + 1 = nI (i + 1) from nI_add i 1]
  refine r_sld (pc := 1506) (vp_in_nI (by omega) (by omega)) dL_law_1506 ?_
  refine r_aload_n (pc := 1507) dL_law_1507 rfl rfl ?_
  refine r_callSH (pc := 1508) (n := 3) (kc' := kc + 20) (ks' := ks + 500) (rest := []) (cs_of hLI.1 (by decide +kernel) (al_doubts hN h0 (nx_doubts hLI _) (lE_of hLI.1))) rfl rfl kwL_doubts tw_51 tw_852 tw_853 ⟨(by decide : yL_doubts.cls ≠ "java/lang/invoke/MethodHandle"), (by decide : yL_doubts.cls ≠ "java/lang/invoke/VarHandle")⟩ (by decide +kernel : (parseMethodDescriptor yL_doubts.desc).map (fun d => d.parameters.length) = some 3) (Nat.le_of_ble_eq_true rfl) (Nat.le_of_ble_eq_true rfl) (by show kc + 20 + 1 ≤ kc + 40; omega) (by show ks + 500 + 6 ≤ ks + 1000; omega) (by exact (Nat.le_of_ble_eq_true rfl)) rfl (List.forall_mem_cons.mpr ⟨rfl, (List.forall_mem_cons.mpr ⟨rfl, (List.forall_mem_cons.mpr ⟨rfl, fun _ h => nomatch h⟩)⟩)⟩) rfl dL_law_1508 (fun E w9 hq _ => by obtain ⟨c, z, -⟩ := hq; cases z) (fun r w9 hq _ => ?_)
  obtain ⟨c9, e9, ⟨fs9, h12⟩, hA⟩ := hq
  cases e9
  refine r_istore (pc := 1511) dL_law_1511 (Nat.le_of_ble_eq_true rfl) rfl ?_
  refine r_aload_n (pc := 1513) dL_law_1513 rfl rfl ?_
  refine r_aload_nX (pc := 1514) dL_law_1514 rfl rfl ?_
  refine r_iload (pc := 1515) dL_law_1515 rfl ?_
  refine r_iconst (pc := 1517) (v := 1) dL_law_1517 (by decide) ?_
  refine r_iadd (pc := 1518) dL_law_1518 ?_
  rw [show nI i + 1 = nI (i + 1) from nI_add i 1]
  refine r_sld (pc := 1519) (vp_in_nI (by omega) (by omega)) dL_law_1519 ?_
  refine s_L_183 (pc := 1520) (kc' := kc + 10) (ks' := ks + 100) rfl rfl hA h12 (Nat.le_of_ble_eq_true rfl) (Nat.le_of_ble_eq_true rfl) (by show kc + 10 + 0 ≤ kc + 20; omega) (by show ks + 100 + 0 ≤ ks + 500; omega) (by exact (Nat.le_of_ble_eq_true rfl)) rfl (List.forall_mem_cons.mpr ⟨rfl, (List.forall_mem_cons.mpr ⟨rfl, fun _ h => nomatch h⟩)⟩) rfl dL_law_1520 (fun E w8 hq _ => by obtain ⟨b, z, -⟩ := hq; cases z) (fun r w8 hq _ => ?_)
  obtain ⟨b9, e9, hJ⟩ := hq
  cases e9
  obtain ⟨f9, h30, hf9⟩ := LJ_30 hJ
  obtain ⟨fs8, h12⟩ := LJ_12 hJ
  refine r_istore (pc := 1523) dL_law_1523 (Nat.le_of_ble_eq_true rfl) rfl ?_
  refine r_aload_n (pc := 1525) dL_law_1525 rfl rfl ?_
  refine s_L_96 (pc := 1526) (kc' := kc) (ks' := ks) rfl rfl (LJ_thr hJ) h12 (Nat.le_of_ble_eq_true rfl) (Nat.le_of_ble_eq_true rfl) (by show kc + 0 ≤ kc + 10; omega) (by show ks + 0 ≤ ks + 100; omega) (by exact (Nat.le_of_ble_eq_true rfl)) rfl (List.forall_mem_cons.mpr ⟨rfl, fun _ h => nomatch h⟩) rfl dL_law_1526 aw_kt (aw_kq ?_)
  refine r_iload (pc := 1529) dL_law_1529 rfl ?_
  refine r_icmp_eq (pc := 1531) (tgt := 1536) dL_law_1531 (by decide) (fun h1531 => ?_) (fun h => absurd rfl h)
  refine r_iload (pc := 1536) dL_law_1536 rfl ?_
  refine r_if_ne (pc := 1538) (tgt := 1553) dL_law_1538 (by decide) (fun h1538 => ?_) (fun h1538 => ?_)
  · refine r_goto (pc := 1553) (tgt := 1556) dL_law_1553 (by decide) ?_
    refine AW_weak (kc' := kc) (ks' := ks) (by omega) (by omega) (fun _ _ z => z) ?_
    refine AW_drop 6 rfl ?_
    refine AW_drop 5 rfl ?_
    exact kk _ (LJ_X hJ)
  · refine r_aload_n (pc := 1541) dL_law_1541 rfl rfl ?_
    refine r_iconst (pc := 1542) (v := 0) dL_law_1542 (by decide) ?_
    refine r_laload (pc := 1543) h30 (vp_in_nI (n := 0) (N := 1) (by decide) (by decide)) dL_law_1543 ?_
    rw [show f9 (Int32.toNatClampNeg 0) = vlI b9 from hf9 h1538]
    refine r_iload (pc := 1544) dL_law_1544 rfl ?_
    refine r_i2l (pc := 1546) dL_law_1546 ?_
    rw [show vlI b9 = b9.toInt64 from rfl]
    refine r_lcmp (pc := 1547) dL_law_1547 ?_
    rw [lg_same]
    refine r_if_eq (pc := 1548) (tgt := 1553) dL_law_1548 (by decide) (fun h1548 => ?_) (fun h => absurd rfl h)
    refine r_goto (pc := 1553) (tgt := 1556) dL_law_1553 (by decide) ?_
    refine AW_weak (kc' := kc) (ks' := ks) (by omega) (by omega) (fun _ _ z => z) ?_
    refine AW_drop 6 rfl ?_
    refine AW_drop 5 rfl ?_
    exact kk _ (LJ_X hJ)
end L2
