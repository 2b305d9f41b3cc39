/-! ===== the reference: types and values of rows ===== -/
section M4
set_option maxRecDepth 100000 in
set_option maxHeartbeats 4000000 in
theorem am_typeFor {G : aw_G} {w : List va_E} (s a b : Int32) : AM G fX8_typeFor [.int s, .int a, .int b] w (qx (.inl (some (.int (tyF s a b)))) w) := by
  refine AM_of (by decide) rfl rfl (Nat.le_of_ble_eq_true rfl) ?_
  show AW G fX8_typeFor 0 0 w 0 [some (.int s), some (.int a), some (.int b), none, none, none] [] _
  refine r_iload_n (pc := 0) dX8_typeFor_0 rfl rfl ?_
  refine r_bipush (pc := 1) (v := 61) dX8_typeFor_1 (by decide) ?_
  refine r_icmp_ne (pc := 3) (tgt := 52) dX8_typeFor_3 (by decide) (fun h3 => ?_) (fun h3 => ?_)
  · refine r_iload_n (pc := 52) dX8_typeFor_52 rfl rfl ?_
    refine r_bipush (pc := 53) (v := 38) dX8_typeFor_53 (by decide) ?_
    refine r_icmp_eq (pc := 55) (tgt := 64) dX8_typeFor_55 (by decide) (fun h55 => ?_) (fun h55 => ?_)
    · refine r_iconst (pc := 64) (v := 1) dX8_typeFor_64 (by decide) ?_
      refine r_goto (pc := 65) (tgt := 69) dX8_typeFor_65 (by decide) ?_
      refine r_istore_n (pc := 69) dX8_typeFor_69 rfl (Nat.le_of_ble_eq_true rfl) rfl ?_
      refine r_iload_n (pc := 70) dX8_typeFor_70 rfl rfl ?_
      refine r_if_eq (pc := 71) (tgt := 78) dX8_typeFor_71 (by decide) (fun h => absurd h (by decide)) (fun _ => ?_)
      refine r_iconst (pc := 74) (v := 2) dX8_typeFor_74 (by decide) ?_
      refine r_goto (pc := 75) (tgt := 79) dX8_typeFor_75 (by decide) ?_
      refine r_istore (pc := 79) dX8_typeFor_79 (Nat.le_of_ble_eq_true rfl) rfl ?_
      refine r_iload_n (pc := 81) dX8_typeFor_81 rfl rfl ?_
      refine r_bipush (pc := 82) (v := 43) dX8_typeFor_82 (by decide) ?_
      refine r_icmp_eq (pc := 84) (tgt := 99) dX8_typeFor_84 (by decide) (fun h84 => ?_) (fun h84 => ?_)
      · refine r_iconst (pc := 99) (v := 1) dX8_typeFor_99 (by decide) ?_
        refine r_goto (pc := 100) (tgt := 104) dX8_typeFor_100 (by decide) ?_
        refine r_istore (pc := 104) dX8_typeFor_104 (Nat.le_of_ble_eq_true rfl) rfl ?_
        refine r_iload_n (pc := 106) dX8_typeFor_106 rfl rfl ?_
        refine r_iload (pc := 107) dX8_typeFor_107 rfl ?_
        refine r_icmp_ne (pc := 109) (tgt := 118) dX8_typeFor_109 (by decide) (fun h109 => ?_) (fun h109 => ?_)
        · refine r_iconst (pc := 118) (v := -1) dX8_typeFor_118 (by decide) ?_
          refine r_goto (pc := 119) (tgt := 132) dX8_typeFor_119 (by decide) ?_
          refine r_iret (pc := 132) rfl rfl dX8_typeFor_132 ?_
          refine ⟨?_, rfl⟩
          simp_all [tyF]
        · refine r_iload_n (pc := 112) dX8_typeFor_112 rfl rfl ?_
          refine r_iload (pc := 113) dX8_typeFor_113 rfl ?_
          refine r_icmp_eq (pc := 115) (tgt := 122) dX8_typeFor_115 (by decide) (fun h115 => ?_) (fun h115 => ?_)
          · refine r_iload (pc := 122) dX8_typeFor_122 rfl ?_
            refine r_if_eq (pc := 124) (tgt := 131) dX8_typeFor_124 (by decide) (fun h => absurd h (by decide)) (fun _ => ?_)
            refine r_iconst (pc := 127) (v := 1) dX8_typeFor_127 (by decide) ?_
            refine r_goto (pc := 128) (tgt := 132) dX8_typeFor_128 (by decide) ?_
            refine r_iret (pc := 132) rfl rfl dX8_typeFor_132 ?_
            refine ⟨?_, rfl⟩
            simp_all [tyF]
          · refine r_iconst (pc := 118) (v := -1) dX8_typeFor_118 (by decide) ?_
            refine r_goto (pc := 119) (tgt := 132) dX8_typeFor_119 (by decide) ?_
            refine r_iret (pc := 132) rfl rfl dX8_typeFor_132 ?_
            refine ⟨?_, rfl⟩
            simp_all [tyF]
      · refine r_iload_n (pc := 87) dX8_typeFor_87 rfl rfl ?_
        refine r_bipush (pc := 88) (v := 45) dX8_typeFor_88 (by decide) ?_
        refine r_icmp_eq (pc := 90) (tgt := 99) dX8_typeFor_90 (by decide) (fun h90 => ?_) (fun h90 => ?_)
        · refine r_iconst (pc := 99) (v := 1) dX8_typeFor_99 (by decide) ?_
          refine r_goto (pc := 100) (tgt := 104) dX8_typeFor_100 (by decide) ?_
          refine r_istore (pc := 104) dX8_typeFor_104 (Nat.le_of_ble_eq_true rfl) rfl ?_
          refine r_iload_n (pc := 106) dX8_typeFor_106 rfl rfl ?_
          refine r_iload (pc := 107) dX8_typeFor_107 rfl ?_
          refine r_icmp_ne (pc := 109) (tgt := 118) dX8_typeFor_109 (by decide) (fun h109 => ?_) (fun h109 => ?_)
          · refine r_iconst (pc := 118) (v := -1) dX8_typeFor_118 (by decide) ?_
            refine r_goto (pc := 119) (tgt := 132) dX8_typeFor_119 (by decide) ?_
            refine r_iret (pc := 132) rfl rfl dX8_typeFor_132 ?_
            refine ⟨?_, rfl⟩
            simp_all [tyF]
          · refine r_iload_n (pc := 112) dX8_typeFor_112 rfl rfl ?_
            refine r_iload (pc := 113) dX8_typeFor_113 rfl ?_
            refine r_icmp_eq (pc := 115) (tgt := 122) dX8_typeFor_115 (by decide) (fun h115 => ?_) (fun h115 => ?_)
            · refine r_iload (pc := 122) dX8_typeFor_122 rfl ?_
              refine r_if_eq (pc := 124) (tgt := 131) dX8_typeFor_124 (by decide) (fun h => absurd h (by decide)) (fun _ => ?_)
              refine r_iconst (pc := 127) (v := 1) dX8_typeFor_127 (by decide) ?_
              refine r_goto (pc := 128) (tgt := 132) dX8_typeFor_128 (by decide) ?_
              refine r_iret (pc := 132) rfl rfl dX8_typeFor_132 ?_
              refine ⟨?_, rfl⟩
              simp_all [tyF]
            · refine r_iconst (pc := 118) (v := -1) dX8_typeFor_118 (by decide) ?_
              refine r_goto (pc := 119) (tgt := 132) dX8_typeFor_119 (by decide) ?_
              refine r_iret (pc := 132) rfl rfl dX8_typeFor_132 ?_
              refine ⟨?_, rfl⟩
              simp_all [tyF]
        · refine r_iload_n (pc := 93) dX8_typeFor_93 rfl rfl ?_
          refine r_bipush (pc := 94) (v := 42) dX8_typeFor_94 (by decide) ?_
          refine r_icmp_ne (pc := 96) (tgt := 103) dX8_typeFor_96 (by decide) (fun h96 => ?_) (fun h96 => ?_)
          · refine r_iconst (pc := 103) (v := 0) dX8_typeFor_103 (by decide) ?_
            refine r_istore (pc := 104) dX8_typeFor_104 (Nat.le_of_ble_eq_true rfl) rfl ?_
            refine r_iload_n (pc := 106) dX8_typeFor_106 rfl rfl ?_
            refine r_iload (pc := 107) dX8_typeFor_107 rfl ?_
            refine r_icmp_ne (pc := 109) (tgt := 118) dX8_typeFor_109 (by decide) (fun h109 => ?_) (fun h109 => ?_)
            · refine r_iconst (pc := 118) (v := -1) dX8_typeFor_118 (by decide) ?_
              refine r_goto (pc := 119) (tgt := 132) dX8_typeFor_119 (by decide) ?_
              refine r_iret (pc := 132) rfl rfl dX8_typeFor_132 ?_
              refine ⟨?_, rfl⟩
              simp_all [tyF]
            · refine r_iload_n (pc := 112) dX8_typeFor_112 rfl rfl ?_
              refine r_iload (pc := 113) dX8_typeFor_113 rfl ?_
              refine r_icmp_eq (pc := 115) (tgt := 122) dX8_typeFor_115 (by decide) (fun h115 => ?_) (fun h115 => ?_)
              · refine r_iload (pc := 122) dX8_typeFor_122 rfl ?_
                refine r_if_eq (pc := 124) (tgt := 131) dX8_typeFor_124 (by decide) (fun _ => ?_) (fun h => absurd h (by decide))
                refine r_iconst (pc := 131) (v := 2) dX8_typeFor_131 (by decide) ?_
                refine r_iret (pc := 132) rfl rfl dX8_typeFor_132 ?_
                refine ⟨?_, rfl⟩
                simp_all [tyF]
              · refine r_iconst (pc := 118) (v := -1) dX8_typeFor_118 (by decide) ?_
                refine r_goto (pc := 119) (tgt := 132) dX8_typeFor_119 (by decide) ?_
                refine r_iret (pc := 132) rfl rfl dX8_typeFor_132 ?_
                refine ⟨?_, rfl⟩
                simp_all [tyF]
          · refine r_iconst (pc := 99) (v := 1) dX8_typeFor_99 (by decide) ?_
            refine r_goto (pc := 100) (tgt := 104) dX8_typeFor_100 (by decide) ?_
            refine r_istore (pc := 104) dX8_typeFor_104 (Nat.le_of_ble_eq_true rfl) rfl ?_
            refine r_iload_n (pc := 106) dX8_typeFor_106 rfl rfl ?_
            refine r_iload (pc := 107) dX8_typeFor_107 rfl ?_
            refine r_icmp_ne (pc := 109) (tgt := 118) dX8_typeFor_109 (by decide) (fun h109 => ?_) (fun h109 => ?_)
            · refine r_iconst (pc := 118) (v := -1) dX8_typeFor_118 (by decide) ?_
              refine r_goto (pc := 119) (tgt := 132) dX8_typeFor_119 (by decide) ?_
              refine r_iret (pc := 132) rfl rfl dX8_typeFor_132 ?_
              refine ⟨?_, rfl⟩
              simp_all [tyF]
            · refine r_iload_n (pc := 112) dX8_typeFor_112 rfl rfl ?_
              refine r_iload (pc := 113) dX8_typeFor_113 rfl ?_
              refine r_icmp_eq (pc := 115) (tgt := 122) dX8_typeFor_115 (by decide) (fun h115 => ?_) (fun h115 => ?_)
              · refine r_iload (pc := 122) dX8_typeFor_122 rfl ?_
                refine r_if_eq (pc := 124) (tgt := 131) dX8_typeFor_124 (by decide) (fun h => absurd h (by decide)) (fun _ => ?_)
                refine r_iconst (pc := 127) (v := 1) dX8_typeFor_127 (by decide) ?_
                refine r_goto (pc := 128) (tgt := 132) dX8_typeFor_128 (by decide) ?_
                refine r_iret (pc := 132) rfl rfl dX8_typeFor_132 ?_
                refine ⟨?_, rfl⟩
                simp_all [tyF]
              · refine r_iconst (pc := 118) (v := -1) dX8_typeFor_118 (by decide) ?_
                refine r_goto (pc := 119) (tgt := 132) dX8_typeFor_119 (by decide) ?_
                refine r_iret (pc := 132) rfl rfl dX8_typeFor_132 ?_
                refine ⟨?_, rfl⟩
                simp_all [tyF]
    · refine r_iload_n (pc := 58) dX8_typeFor_58 rfl rfl ?_
      refine r_bipush (pc := 59) (v := 124) dX8_typeFor_59 (by decide) ?_
      refine r_icmp_ne (pc := 61) (tgt := 68) dX8_typeFor_61 (by decide) (fun h61 => ?_) (fun h61 => ?_)
      · refine r_iconst (pc := 68) (v := 0) dX8_typeFor_68 (by decide) ?_
        refine r_istore_n (pc := 69) dX8_typeFor_69 rfl (Nat.le_of_ble_eq_true rfl) rfl ?_
        refine r_iload_n (pc := 70) dX8_typeFor_70 rfl rfl ?_
        refine r_if_eq (pc := 71) (tgt := 78) dX8_typeFor_71 (by decide) (fun _ => ?_) (fun h => absurd h (by decide))
        refine r_iconst (pc := 78) (v := 1) dX8_typeFor_78 (by decide) ?_
        refine r_istore (pc := 79) dX8_typeFor_79 (Nat.le_of_ble_eq_true rfl) rfl ?_
        refine r_iload_n (pc := 81) dX8_typeFor_81 rfl rfl ?_
        refine r_bipush (pc := 82) (v := 43) dX8_typeFor_82 (by decide) ?_
        refine r_icmp_eq (pc := 84) (tgt := 99) dX8_typeFor_84 (by decide) (fun h84 => ?_) (fun h84 => ?_)
        · refine r_iconst (pc := 99) (v := 1) dX8_typeFor_99 (by decide) ?_
          refine r_goto (pc := 100) (tgt := 104) dX8_typeFor_100 (by decide) ?_
          refine r_istore (pc := 104) dX8_typeFor_104 (Nat.le_of_ble_eq_true rfl) rfl ?_
          refine r_iload_n (pc := 106) dX8_typeFor_106 rfl rfl ?_
          refine r_iload (pc := 107) dX8_typeFor_107 rfl ?_
          refine r_icmp_ne (pc := 109) (tgt := 118) dX8_typeFor_109 (by decide) (fun h109 => ?_) (fun h109 => ?_)
          · refine r_iconst (pc := 118) (v := -1) dX8_typeFor_118 (by decide) ?_
            refine r_goto (pc := 119) (tgt := 132) dX8_typeFor_119 (by decide) ?_
            refine r_iret (pc := 132) rfl rfl dX8_typeFor_132 ?_
            refine ⟨?_, rfl⟩
            simp_all [tyF]
          · refine r_iload_n (pc := 112) dX8_typeFor_112 rfl rfl ?_
            refine r_iload (pc := 113) dX8_typeFor_113 rfl ?_
            refine r_icmp_eq (pc := 115) (tgt := 122) dX8_typeFor_115 (by decide) (fun h115 => ?_) (fun h115 => ?_)
            · refine r_iload (pc := 122) dX8_typeFor_122 rfl ?_
              refine r_if_eq (pc := 124) (tgt := 131) dX8_typeFor_124 (by decide) (fun h => absurd h (by decide)) (fun _ => ?_)
              refine r_iconst (pc := 127) (v := 1) dX8_typeFor_127 (by decide) ?_
              refine r_goto (pc := 128) (tgt := 132) dX8_typeFor_128 (by decide) ?_
              refine r_iret (pc := 132) rfl rfl dX8_typeFor_132 ?_
              refine ⟨?_, rfl⟩
              simp_all [tyF]
            · refine r_iconst (pc := 118) (v := -1) dX8_typeFor_118 (by decide) ?_
              refine r_goto (pc := 119) (tgt := 132) dX8_typeFor_119 (by decide) ?_
              refine r_iret (pc := 132) rfl rfl dX8_typeFor_132 ?_
              refine ⟨?_, rfl⟩
              simp_all [tyF]
        · refine r_iload_n (pc := 87) dX8_typeFor_87 rfl rfl ?_
          refine r_bipush (pc := 88) (v := 45) dX8_typeFor_88 (by decide) ?_
          refine r_icmp_eq (pc := 90) (tgt := 99) dX8_typeFor_90 (by decide) (fun h90 => ?_) (fun h90 => ?_)
          · refine r_iconst (pc := 99) (v := 1) dX8_typeFor_99 (by decide) ?_
            refine r_goto (pc := 100) (tgt := 104) dX8_typeFor_100 (by decide) ?_
            refine r_istore (pc := 104) dX8_typeFor_104 (Nat.le_of_ble_eq_true rfl) rfl ?_
            refine r_iload_n (pc := 106) dX8_typeFor_106 rfl rfl ?_
            refine r_iload (pc := 107) dX8_typeFor_107 rfl ?_
            refine r_icmp_ne (pc := 109) (tgt := 118) dX8_typeFor_109 (by decide) (fun h109 => ?_) (fun h109 => ?_)
            · refine r_iconst (pc := 118) (v := -1) dX8_typeFor_118 (by decide) ?_
              refine r_goto (pc := 119) (tgt := 132) dX8_typeFor_119 (by decide) ?_
              refine r_iret (pc := 132) rfl rfl dX8_typeFor_132 ?_
              refine ⟨?_, rfl⟩
              simp_all [tyF]
            · refine r_iload_n (pc := 112) dX8_typeFor_112 rfl rfl ?_
              refine r_iload (pc := 113) dX8_typeFor_113 rfl ?_
              refine r_icmp_eq (pc := 115) (tgt := 122) dX8_typeFor_115 (by decide) (fun h115 => ?_) (fun h115 => ?_)
              · refine r_iload (pc := 122) dX8_typeFor_122 rfl ?_
                refine r_if_eq (pc := 124) (tgt := 131) dX8_typeFor_124 (by decide) (fun h => absurd h (by decide)) (fun _ => ?_)
                refine r_iconst (pc := 127) (v := 1) dX8_typeFor_127 (by decide) ?_
                refine r_goto (pc := 128) (tgt := 132) dX8_typeFor_128 (by decide) ?_
                refine r_iret (pc := 132) rfl rfl dX8_typeFor_132 ?_
                refine ⟨?_, rfl⟩
                simp_all [tyF]
              · refine r_iconst (pc := 118) (v := -1) dX8_typeFor_118 (by decide) ?_
                refine r_goto (pc := 119) (tgt := 132) dX8_typeFor_119 (by decide) ?_
                refine r_iret (pc := 132) rfl rfl dX8_typeFor_132 ?_
                refine ⟨?_, rfl⟩
                simp_all [tyF]
          · refine r_iload_n (pc := 93) dX8_typeFor_93 rfl rfl ?_
            refine r_bipush (pc := 94) (v := 42) dX8_typeFor_94 (by decide) ?_
            refine r_icmp_ne (pc := 96) (tgt := 103) dX8_typeFor_96 (by decide) (fun h96 => ?_) (fun h96 => ?_)
            · refine r_iconst (pc := 103) (v := 0) dX8_typeFor_103 (by decide) ?_
              refine r_istore (pc := 104) dX8_typeFor_104 (Nat.le_of_ble_eq_true rfl) rfl ?_
              refine r_iload_n (pc := 106) dX8_typeFor_106 rfl rfl ?_
              refine r_iload (pc := 107) dX8_typeFor_107 rfl ?_
              refine r_icmp_ne (pc := 109) (tgt := 118) dX8_typeFor_109 (by decide) (fun h109 => ?_) (fun h109 => ?_)
              · refine r_iconst (pc := 118) (v := -1) dX8_typeFor_118 (by decide) ?_
                refine r_goto (pc := 119) (tgt := 132) dX8_typeFor_119 (by decide) ?_
                refine r_iret (pc := 132) rfl rfl dX8_typeFor_132 ?_
                refine ⟨?_, rfl⟩
                simp_all [tyF]
              · refine r_iload_n (pc := 112) dX8_typeFor_112 rfl rfl ?_
                refine r_iload (pc := 113) dX8_typeFor_113 rfl ?_
                refine r_icmp_eq (pc := 115) (tgt := 122) dX8_typeFor_115 (by decide) (fun h115 => ?_) (fun h115 => ?_)
                · refine r_iload (pc := 122) dX8_typeFor_122 rfl ?_
                  refine r_if_eq (pc := 124) (tgt := 131) dX8_typeFor_124 (by decide) (fun _ => ?_) (fun h => absurd h (by decide))
                  refine r_iconst (pc := 131) (v := 2) dX8_typeFor_131 (by decide) ?_
                  refine r_iret (pc := 132) rfl rfl dX8_typeFor_132 ?_
                  refine ⟨?_, rfl⟩
                  simp_all [tyF]
                · refine r_iconst (pc := 118) (v := -1) dX8_typeFor_118 (by decide) ?_
                  refine r_goto (pc := 119) (tgt := 132) dX8_typeFor_119 (by decide) ?_
                  refine r_iret (pc := 132) rfl rfl dX8_typeFor_132 ?_
                  refine ⟨?_, rfl⟩
                  simp_all [tyF]
            · refine r_iconst (pc := 99) (v := 1) dX8_typeFor_99 (by decide) ?_
              refine r_goto (pc := 100) (tgt := 104) dX8_typeFor_100 (by decide) ?_
              refine r_istore (pc := 104) dX8_typeFor_104 (Nat.le_of_ble_eq_true rfl) rfl ?_
              refine r_iload_n (pc := 106) dX8_typeFor_106 rfl rfl ?_
              refine r_iload (pc := 107) dX8_typeFor_107 rfl ?_
              refine r_icmp_ne (pc := 109) (tgt := 118) dX8_typeFor_109 (by decide) (fun h109 => ?_) (fun h109 => ?_)
              · refine r_iconst (pc := 118) (v := -1) dX8_typeFor_118 (by decide) ?_
                refine r_goto (pc := 119) (tgt := 132) dX8_typeFor_119 (by decide) ?_
                refine r_iret (pc := 132) rfl rfl dX8_typeFor_132 ?_
                refine ⟨?_, rfl⟩
                simp_all [tyF]
              · refine r_iload_n (pc := 112) dX8_typeFor_112 rfl rfl ?_
                refine r_iload (pc := 113) dX8_typeFor_113 rfl ?_
                refine r_icmp_eq (pc := 115) (tgt := 122) dX8_typeFor_115 (by decide) (fun h115 => ?_) (fun h115 => ?_)
                · refine r_iload (pc := 122) dX8_typeFor_122 rfl ?_
                  refine r_if_eq (pc := 124) (tgt := 131) dX8_typeFor_124 (by decide) (fun h => absurd h (by decide)) (fun _ => ?_)
                  refine r_iconst (pc := 127) (v := 1) dX8_typeFor_127 (by decide) ?_
                  refine r_goto (pc := 128) (tgt := 132) dX8_typeFor_128 (by decide) ?_
                  refine r_iret (pc := 132) rfl rfl dX8_typeFor_132 ?_
                  refine ⟨?_, rfl⟩
                  simp_all [tyF]
                · refine r_iconst (pc := 118) (v := -1) dX8_typeFor_118 (by decide) ?_
                  refine r_goto (pc := 119) (tgt := 132) dX8_typeFor_119 (by decide) ?_
                  refine r_iret (pc := 132) rfl rfl dX8_typeFor_132 ?_
                  refine ⟨?_, rfl⟩
                  simp_all [tyF]
      · refine r_iconst (pc := 64) (v := 1) dX8_typeFor_64 (by decide) ?_
        refine r_goto (pc := 65) (tgt := 69) dX8_typeFor_65 (by decide) ?_
        refine r_istore_n (pc := 69) dX8_typeFor_69 rfl (Nat.le_of_ble_eq_true rfl) rfl ?_
        refine r_iload_n (pc := 70) dX8_typeFor_70 rfl rfl ?_
        refine r_if_eq (pc := 71) (tgt := 78) dX8_typeFor_71 (by decide) (fun h => absurd h (by decide)) (fun _ => ?_)
        refine r_iconst (pc := 74) (v := 2) dX8_typeFor_74 (by decide) ?_
        refine r_goto (pc := 75) (tgt := 79) dX8_typeFor_75 (by decide) ?_
        refine r_istore (pc := 79) dX8_typeFor_79 (Nat.le_of_ble_eq_true rfl) rfl ?_
        refine r_iload_n (pc := 81) dX8_typeFor_81 rfl rfl ?_
        refine r_bipush (pc := 82) (v := 43) dX8_typeFor_82 (by decide) ?_
        refine r_icmp_eq (pc := 84) (tgt := 99) dX8_typeFor_84 (by decide) (fun h84 => ?_) (fun h84 => ?_)
        · refine r_iconst (pc := 99) (v := 1) dX8_typeFor_99 (by decide) ?_
          refine r_goto (pc := 100) (tgt := 104) dX8_typeFor_100 (by decide) ?_
          refine r_istore (pc := 104) dX8_typeFor_104 (Nat.le_of_ble_eq_true rfl) rfl ?_
          refine r_iload_n (pc := 106) dX8_typeFor_106 rfl rfl ?_
          refine r_iload (pc := 107) dX8_typeFor_107 rfl ?_
          refine r_icmp_ne (pc := 109) (tgt := 118) dX8_typeFor_109 (by decide) (fun h109 => ?_) (fun h109 => ?_)
          · refine r_iconst (pc := 118) (v := -1) dX8_typeFor_118 (by decide) ?_
            refine r_goto (pc := 119) (tgt := 132) dX8_typeFor_119 (by decide) ?_
            refine r_iret (pc := 132) rfl rfl dX8_typeFor_132 ?_
            refine ⟨?_, rfl⟩
            simp_all [tyF]
          · refine r_iload_n (pc := 112) dX8_typeFor_112 rfl rfl ?_
            refine r_iload (pc := 113) dX8_typeFor_113 rfl ?_
            refine r_icmp_eq (pc := 115) (tgt := 122) dX8_typeFor_115 (by decide) (fun h115 => ?_) (fun h115 => ?_)
            · refine r_iload (pc := 122) dX8_typeFor_122 rfl ?_
              refine r_if_eq (pc := 124) (tgt := 131) dX8_typeFor_124 (by decide) (fun h => absurd h (by decide)) (fun _ => ?_)
              refine r_iconst (pc := 127) (v := 1) dX8_typeFor_127 (by decide) ?_
              refine r_goto (pc := 128) (tgt := 132) dX8_typeFor_128 (by decide) ?_
              refine r_iret (pc := 132) rfl rfl dX8_typeFor_132 ?_
              refine ⟨?_, rfl⟩
              simp_all [tyF]
            · refine r_iconst (pc := 118) (v := -1) dX8_typeFor_118 (by decide) ?_
              refine r_goto (pc := 119) (tgt := 132) dX8_typeFor_119 (by decide) ?_
              refine r_iret (pc := 132) rfl rfl dX8_typeFor_132 ?_
              refine ⟨?_, rfl⟩
              simp_all [tyF]
        · refine r_iload_n (pc := 87) dX8_typeFor_87 rfl rfl ?_
          refine r_bipush (pc := 88) (v := 45) dX8_typeFor_88 (by decide) ?_
          refine r_icmp_eq (pc := 90) (tgt := 99) dX8_typeFor_90 (by decide) (fun h90 => ?_) (fun h90 => ?_)
          · refine r_iconst (pc := 99) (v := 1) dX8_typeFor_99 (by decide) ?_
            refine r_goto (pc := 100) (tgt := 104) dX8_typeFor_100 (by decide) ?_
            refine r_istore (pc := 104) dX8_typeFor_104 (Nat.le_of_ble_eq_true rfl) rfl ?_
            refine r_iload_n (pc := 106) dX8_typeFor_106 rfl rfl ?_
            refine r_iload (pc := 107) dX8_typeFor_107 rfl ?_
            refine r_icmp_ne (pc := 109) (tgt := 118) dX8_typeFor_109 (by decide) (fun h109 => ?_) (fun h109 => ?_)
            · refine r_iconst (pc := 118) (v := -1) dX8_typeFor_118 (by decide) ?_
              refine r_goto (pc := 119) (tgt := 132) dX8_typeFor_119 (by decide) ?_
              refine r_iret (pc := 132) rfl rfl dX8_typeFor_132 ?_
              refine ⟨?_, rfl⟩
              simp_all [tyF]
            · refine r_iload_n (pc := 112) dX8_typeFor_112 rfl rfl ?_
              refine r_iload (pc := 113) dX8_typeFor_113 rfl ?_
              refine r_icmp_eq (pc := 115) (tgt := 122) dX8_typeFor_115 (by decide) (fun h115 => ?_) (fun h115 => ?_)
              · refine r_iload (pc := 122) dX8_typeFor_122 rfl ?_
                refine r_if_eq (pc := 124) (tgt := 131) dX8_typeFor_124 (by decide) (fun h => absurd h (by decide)) (fun _ => ?_)
                refine r_iconst (pc := 127) (v := 1) dX8_typeFor_127 (by decide) ?_
                refine r_goto (pc := 128) (tgt := 132) dX8_typeFor_128 (by decide) ?_
                refine r_iret (pc := 132) rfl rfl dX8_typeFor_132 ?_
                refine ⟨?_, rfl⟩
                simp_all [tyF]
              · refine r_iconst (pc := 118) (v := -1) dX8_typeFor_118 (by decide) ?_
                refine r_goto (pc := 119) (tgt := 132) dX8_typeFor_119 (by decide) ?_
                refine r_iret (pc := 132) rfl rfl dX8_typeFor_132 ?_
                refine ⟨?_, rfl⟩
                simp_all [tyF]
          · refine r_iload_n (pc := 93) dX8_typeFor_93 rfl rfl ?_
            refine r_bipush (pc := 94) (v := 42) dX8_typeFor_94 (by decide) ?_
            refine r_icmp_ne (pc := 96) (tgt := 103) dX8_typeFor_96 (by decide) (fun h96 => ?_) (fun h96 => ?_)
            · refine r_iconst (pc := 103) (v := 0) dX8_typeFor_103 (by decide) ?_
              refine r_istore (pc := 104) dX8_typeFor_104 (Nat.le_of_ble_eq_true rfl) rfl ?_
              refine r_iload_n (pc := 106) dX8_typeFor_106 rfl rfl ?_
              refine r_iload (pc := 107) dX8_typeFor_107 rfl ?_
              refine r_icmp_ne (pc := 109) (tgt := 118) dX8_typeFor_109 (by decide) (fun h109 => ?_) (fun h109 => ?_)
              · refine r_iconst (pc := 118) (v := -1) dX8_typeFor_118 (by decide) ?_
                refine r_goto (pc := 119) (tgt := 132) dX8_typeFor_119 (by decide) ?_
                refine r_iret (pc := 132) rfl rfl dX8_typeFor_132 ?_
                refine ⟨?_, rfl⟩
                simp_all [tyF]
              · refine r_iload_n (pc := 112) dX8_typeFor_112 rfl rfl ?_
                refine r_iload (pc := 113) dX8_typeFor_113 rfl ?_
                refine r_icmp_eq (pc := 115) (tgt := 122) dX8_typeFor_115 (by decide) (fun h115 => ?_) (fun h115 => ?_)
                · refine r_iload (pc := 122) dX8_typeFor_122 rfl ?_
                  refine r_if_eq (pc := 124) (tgt := 131) dX8_typeFor_124 (by decide) (fun _ => ?_) (fun h => absurd h (by decide))
                  refine r_iconst (pc := 131) (v := 2) dX8_typeFor_131 (by decide) ?_
                  refine r_iret (pc := 132) rfl rfl dX8_typeFor_132 ?_
                  refine ⟨?_, rfl⟩
                  simp_all [tyF]
                · refine r_iconst (pc := 118) (v := -1) dX8_typeFor_118 (by decide) ?_
                  refine r_goto (pc := 119) (tgt := 132) dX8_typeFor_119 (by decide) ?_
                  refine r_iret (pc := 132) rfl rfl dX8_typeFor_132 ?_
                  refine ⟨?_, rfl⟩
                  simp_all [tyF]
            · refine r_iconst (pc := 99) (v := 1) dX8_typeFor_99 (by decide) ?_
              refine r_goto (pc := 100) (tgt := 104) dX8_typeFor_100 (by decide) ?_
              refine r_istore (pc := 104) dX8_typeFor_104 (Nat.le_of_ble_eq_true rfl) rfl ?_
              refine r_iload_n (pc := 106) dX8_typeFor_106 rfl rfl ?_
              refine r_iload (pc := 107) dX8_typeFor_107 rfl ?_
              refine r_icmp_ne (pc := 109) (tgt := 118) dX8_typeFor_109 (by decide) (fun h109 => ?_) (fun h109 => ?_)
              · refine r_iconst (pc := 118) (v := -1) dX8_typeFor_118 (by decide) ?_
                refine r_goto (pc := 119) (tgt := 132) dX8_typeFor_119 (by decide) ?_
                refine r_iret (pc := 132) rfl rfl dX8_typeFor_132 ?_
                refine ⟨?_, rfl⟩
                simp_all [tyF]
              · refine r_iload_n (pc := 112) dX8_typeFor_112 rfl rfl ?_
                refine r_iload (pc := 113) dX8_typeFor_113 rfl ?_
                refine r_icmp_eq (pc := 115) (tgt := 122) dX8_typeFor_115 (by decide) (fun h115 => ?_) (fun h115 => ?_)
                · refine r_iload (pc := 122) dX8_typeFor_122 rfl ?_
                  refine r_if_eq (pc := 124) (tgt := 131) dX8_typeFor_124 (by decide) (fun h => absurd h (by decide)) (fun _ => ?_)
                  refine r_iconst (pc := 127) (v := 1) dX8_typeFor_127 (by decide) ?_
                  refine r_goto (pc := 128) (tgt := 132) dX8_typeFor_128 (by decide) ?_
                  refine r_iret (pc := 132) rfl rfl dX8_typeFor_132 ?_
                  refine ⟨?_, rfl⟩
                  simp_all [tyF]
                · refine r_iconst (pc := 118) (v := -1) dX8_typeFor_118 (by decide) ?_
                  refine r_goto (pc := 119) (tgt := 132) dX8_typeFor_119 (by decide) ?_
                  refine r_iret (pc := 132) rfl rfl dX8_typeFor_132 ?_
                  refine ⟨?_, rfl⟩
                  simp_all [tyF]
  · refine r_iload_n (pc := 6) dX8_typeFor_6 rfl rfl ?_
    refine r_iload_n (pc := 7) dX8_typeFor_7 rfl rfl ?_
    refine r_icmp_eq (pc := 8) (tgt := 31) dX8_typeFor_8 (by decide) (fun h8 => ?_) (fun h8 => ?_)
    · refine r_iconst (pc := 31) (v := 1) dX8_typeFor_31 (by decide) ?_
      refine r_goto (pc := 32) (tgt := 36) dX8_typeFor_32 (by decide) ?_
      refine r_istore_n (pc := 36) dX8_typeFor_36 rfl (Nat.le_of_ble_eq_true rfl) rfl ?_
      refine r_iload_n (pc := 37) dX8_typeFor_37 rfl rfl ?_
      refine r_if_eq (pc := 38) (tgt := 50) dX8_typeFor_38 (by decide) (fun h => absurd h (by decide)) (fun _ => ?_)
      refine r_iload_n (pc := 41) dX8_typeFor_41 rfl rfl ?_
      refine r_iconst (pc := 42) (v := -1) dX8_typeFor_42 (by decide) ?_
      refine r_icmp_eq (pc := 43) (tgt := 50) dX8_typeFor_43 (by decide) (fun h43 => ?_) (fun h43 => ?_)
      · refine r_iconst (pc := 50) (v := -1) dX8_typeFor_50 (by decide) ?_
        refine r_iret (pc := 51) rfl rfl dX8_typeFor_51 ?_
        refine ⟨?_, rfl⟩
        simp_all [tyF]
      · refine r_iconst (pc := 46) (v := 2) dX8_typeFor_46 (by decide) ?_
        refine r_goto (pc := 47) (tgt := 51) dX8_typeFor_47 (by decide) ?_
        refine r_iret (pc := 51) rfl rfl dX8_typeFor_51 ?_
        refine ⟨?_, rfl⟩
        simp_all [tyF]
    · refine r_iload_n (pc := 11) dX8_typeFor_11 rfl rfl ?_
      refine r_iconst (pc := 12) (v := 1) dX8_typeFor_12 (by decide) ?_
      refine r_icmp_ne (pc := 13) (tgt := 21) dX8_typeFor_13 (by decide) (fun h13 => ?_) (fun h13 => ?_)
      · refine r_iload_n (pc := 21) dX8_typeFor_21 rfl rfl ?_
        refine r_iconst (pc := 22) (v := 3) dX8_typeFor_22 (by decide) ?_
        refine r_icmp_ne (pc := 23) (tgt := 35) dX8_typeFor_23 (by decide) (fun h23 => ?_) (fun h23 => ?_)
        · refine r_iconst (pc := 35) (v := 0) dX8_typeFor_35 (by decide) ?_
          refine r_istore_n (pc := 36) dX8_typeFor_36 rfl (Nat.le_of_ble_eq_true rfl) rfl ?_
          refine r_iload_n (pc := 37) dX8_typeFor_37 rfl rfl ?_
          refine r_if_eq (pc := 38) (tgt := 50) dX8_typeFor_38 (by decide) (fun _ => ?_) (fun h => absurd h (by decide))
          refine r_iconst (pc := 50) (v := -1) dX8_typeFor_50 (by decide) ?_
          refine r_iret (pc := 51) rfl rfl dX8_typeFor_51 ?_
          refine ⟨?_, rfl⟩
          simp_all [tyF]
        · refine r_iload_n (pc := 26) dX8_typeFor_26 rfl rfl ?_
          refine r_iconst (pc := 27) (v := 1) dX8_typeFor_27 (by decide) ?_
          refine r_icmp_ne (pc := 28) (tgt := 35) dX8_typeFor_28 (by decide) (fun h28 => ?_) (fun h28 => ?_)
          · refine r_iconst (pc := 35) (v := 0) dX8_typeFor_35 (by decide) ?_
            refine r_istore_n (pc := 36) dX8_typeFor_36 rfl (Nat.le_of_ble_eq_true rfl) rfl ?_
            refine r_iload_n (pc := 37) dX8_typeFor_37 rfl rfl ?_
            refine r_if_eq (pc := 38) (tgt := 50) dX8_typeFor_38 (by decide) (fun _ => ?_) (fun h => absurd h (by decide))
            refine r_iconst (pc := 50) (v := -1) dX8_typeFor_50 (by decide) ?_
            refine r_iret (pc := 51) rfl rfl dX8_typeFor_51 ?_
            refine ⟨?_, rfl⟩
            simp_all [tyF]
          · refine r_iconst (pc := 31) (v := 1) dX8_typeFor_31 (by decide) ?_
            refine r_goto (pc := 32) (tgt := 36) dX8_typeFor_32 (by decide) ?_
            refine r_istore_n (pc := 36) dX8_typeFor_36 rfl (Nat.le_of_ble_eq_true rfl) rfl ?_
            refine r_iload_n (pc := 37) dX8_typeFor_37 rfl rfl ?_
            refine r_if_eq (pc := 38) (tgt := 50) dX8_typeFor_38 (by decide) (fun h => absurd h (by decide)) (fun _ => ?_)
            refine r_iload_n (pc := 41) dX8_typeFor_41 rfl rfl ?_
            refine r_iconst (pc := 42) (v := -1) dX8_typeFor_42 (by decide) ?_
            refine r_icmp_eq (pc := 43) (tgt := 50) dX8_typeFor_43 (by decide) (fun h43 => ?_) (fun h43 => ?_)
            · refine r_iconst (pc := 50) (v := -1) dX8_typeFor_50 (by decide) ?_
              refine r_iret (pc := 51) rfl rfl dX8_typeFor_51 ?_
              refine ⟨?_, rfl⟩
              simp_all [tyF]
            · refine r_iconst (pc := 46) (v := 2) dX8_typeFor_46 (by decide) ?_
              refine r_goto (pc := 47) (tgt := 51) dX8_typeFor_47 (by decide) ?_
              refine r_iret (pc := 51) rfl rfl dX8_typeFor_51 ?_
              refine ⟨?_, rfl⟩
              simp_all [tyF]
      · refine r_iload_n (pc := 16) dX8_typeFor_16 rfl rfl ?_
        refine r_iconst (pc := 17) (v := 3) dX8_typeFor_17 (by decide) ?_
        refine r_icmp_eq (pc := 18) (tgt := 31) dX8_typeFor_18 (by decide) (fun h18 => ?_) (fun h18 => ?_)
        · refine r_iconst (pc := 31) (v := 1) dX8_typeFor_31 (by decide) ?_
          refine r_goto (pc := 32) (tgt := 36) dX8_typeFor_32 (by decide) ?_
          refine r_istore_n (pc := 36) dX8_typeFor_36 rfl (Nat.le_of_ble_eq_true rfl) rfl ?_
          refine r_iload_n (pc := 37) dX8_typeFor_37 rfl rfl ?_
          refine r_if_eq (pc := 38) (tgt := 50) dX8_typeFor_38 (by decide) (fun h => absurd h (by decide)) (fun _ => ?_)
          refine r_iload_n (pc := 41) dX8_typeFor_41 rfl rfl ?_
          refine r_iconst (pc := 42) (v := -1) dX8_typeFor_42 (by decide) ?_
          refine r_icmp_eq (pc := 43) (tgt := 50) dX8_typeFor_43 (by decide) (fun h43 => ?_) (fun h43 => ?_)
          · refine r_iconst (pc := 50) (v := -1) dX8_typeFor_50 (by decide) ?_
            refine r_iret (pc := 51) rfl rfl dX8_typeFor_51 ?_
            refine ⟨?_, rfl⟩
            simp_all [tyF]
          · refine r_iconst (pc := 46) (v := 2) dX8_typeFor_46 (by decide) ?_
            refine r_goto (pc := 47) (tgt := 51) dX8_typeFor_47 (by decide) ?_
            refine r_iret (pc := 51) rfl rfl dX8_typeFor_51 ?_
            refine ⟨?_, rfl⟩
            simp_all [tyF]
        · refine r_iload_n (pc := 21) dX8_typeFor_21 rfl rfl ?_
          refine r_iconst (pc := 22) (v := 3) dX8_typeFor_22 (by decide) ?_
          refine r_icmp_ne (pc := 23) (tgt := 35) dX8_typeFor_23 (by decide) (fun h23 => ?_) (fun h23 => ?_)
          · refine r_iconst (pc := 35) (v := 0) dX8_typeFor_35 (by decide) ?_
            refine r_istore_n (pc := 36) dX8_typeFor_36 rfl (Nat.le_of_ble_eq_true rfl) rfl ?_
            refine r_iload_n (pc := 37) dX8_typeFor_37 rfl rfl ?_
            refine r_if_eq (pc := 38) (tgt := 50) dX8_typeFor_38 (by decide) (fun _ => ?_) (fun h => absurd h (by decide))
            refine r_iconst (pc := 50) (v := -1) dX8_typeFor_50 (by decide) ?_
            refine r_iret (pc := 51) rfl rfl dX8_typeFor_51 ?_
            refine ⟨?_, rfl⟩
            simp_all [tyF]
          · refine r_iload_n (pc := 26) dX8_typeFor_26 rfl rfl ?_
            refine r_iconst (pc := 27) (v := 1) dX8_typeFor_27 (by decide) ?_
            refine r_icmp_ne (pc := 28) (tgt := 35) dX8_typeFor_28 (by decide) (fun h28 => ?_) (fun h28 => ?_)
            · refine r_iconst (pc := 35) (v := 0) dX8_typeFor_35 (by decide) ?_
              refine r_istore_n (pc := 36) dX8_typeFor_36 rfl (Nat.le_of_ble_eq_true rfl) rfl ?_
              refine r_iload_n (pc := 37) dX8_typeFor_37 rfl rfl ?_
              refine r_if_eq (pc := 38) (tgt := 50) dX8_typeFor_38 (by decide) (fun _ => ?_) (fun h => absurd h (by decide))
              refine r_iconst (pc := 50) (v := -1) dX8_typeFor_50 (by decide) ?_
              refine r_iret (pc := 51) rfl rfl dX8_typeFor_51 ?_
              refine ⟨?_, rfl⟩
              simp_all [tyF]
            · refine r_iconst (pc := 31) (v := 1) dX8_typeFor_31 (by decide) ?_
              refine r_goto (pc := 32) (tgt := 36) dX8_typeFor_32 (by decide) ?_
              refine r_istore_n (pc := 36) dX8_typeFor_36 rfl (Nat.le_of_ble_eq_true rfl) rfl ?_
              refine r_iload_n (pc := 37) dX8_typeFor_37 rfl rfl ?_
              refine r_if_eq (pc := 38) (tgt := 50) dX8_typeFor_38 (by decide) (fun h => absurd h (by decide)) (fun _ => ?_)
              refine r_iload_n (pc := 41) dX8_typeFor_41 rfl rfl ?_
              refine r_iconst (pc := 42) (v := -1) dX8_typeFor_42 (by decide) ?_
              refine r_icmp_eq (pc := 43) (tgt := 50) dX8_typeFor_43 (by decide) (fun h43 => ?_) (fun h43 => ?_)
              · refine r_iconst (pc := 50) (v := -1) dX8_typeFor_50 (by decide) ?_
                refine r_iret (pc := 51) rfl rfl dX8_typeFor_51 ?_
                refine ⟨?_, rfl⟩
                simp_all [tyF]
              · refine r_iconst (pc := 46) (v := 2) dX8_typeFor_46 (by decide) ?_
                refine r_goto (pc := 47) (tgt := 51) dX8_typeFor_47 (by decide) ?_
                refine r_iret (pc := 51) rfl rfl dX8_typeFor_51 ?_
                refine ⟨?_, rfl⟩
                simp_all [tyF]

set_option maxRecDepth 100000 in
set_option maxHeartbeats 4000000 in
theorem am_valueFor {G : aw_G} {w : List va_E} (s a b : Int32) : AM G fX8_valueFor [.int s, .int a, .int b] w (qx (.inl (some (.int (vaF s a b)))) w) := by
  refine AM_of (by decide) rfl rfl (Nat.le_of_ble_eq_true rfl) ?_
  show AW G fX8_valueFor 0 0 w 0 [some (.int s), some (.int a), some (.int b), none] [] _
  refine r_iload_n (pc := 0) dX8_valueFor_0 rfl rfl ?_
  refine r_bipush (pc := 1) (v := 43) dX8_valueFor_1 (by decide) ?_
  refine r_icmp_eq (pc := 3) (tgt := 18) dX8_valueFor_3 (by decide) (fun h3 => ?_) (fun h3 => ?_)
  · refine r_iload_n (pc := 18) dX8_valueFor_18 rfl rfl ?_
    refine r_bipush (pc := 19) (v := 43) dX8_valueFor_19 (by decide) ?_
    refine r_icmp_ne (pc := 21) (tgt := 30) dX8_valueFor_21 (by decide) (fun h21 => ?_) (fun h21 => ?_)
    · refine r_iload_n (pc := 30) dX8_valueFor_30 rfl rfl ?_
      refine r_bipush (pc := 31) (v := 45) dX8_valueFor_31 (by decide) ?_
      refine r_icmp_ne (pc := 33) (tgt := 42) dX8_valueFor_33 (by decide) (fun h33 => ?_) (fun h33 => ?_)
      · refine r_iload_n (pc := 42) dX8_valueFor_42 rfl rfl ?_
        refine r_iload_n (pc := 43) dX8_valueFor_43 rfl rfl ?_
        refine r_imul (pc := 44) dX8_valueFor_44 ?_
        refine r_sipush (pc := 45) (v := 10000) dX8_valueFor_45 (by decide) ?_
        refine r_irem (pc := 48) dX8_valueFor_48 (by decide) ?_
        refine r_iret (pc := 49) rfl rfl dX8_valueFor_49 ?_
        refine ⟨?_, rfl⟩
        first | (simp_all [vaF, rm4, bi]; done) | (simp only [Int32.not_lt, Int32.not_le, ge_iff_le, gt_iff_lt] at *; simp_all [vaF, rm4, bi, Int32.not_lt, Int32.not_le]; done) | (simp only [ge_iff_le, gt_iff_lt, ← Int32.not_lt, Classical.not_not] at *; simp_all [vaF, rm4, bi])
      · refine r_iload_n (pc := 36) dX8_valueFor_36 rfl rfl ?_
        refine r_iload_n (pc := 37) dX8_valueFor_37 rfl rfl ?_
        refine r_isub (pc := 38) dX8_valueFor_38 ?_
        refine r_goto (pc := 39) (tgt := 45) dX8_valueFor_39 (by decide) ?_
        refine r_sipush (pc := 45) (v := 10000) dX8_valueFor_45 (by decide) ?_
        refine r_irem (pc := 48) dX8_valueFor_48 (by decide) ?_
        refine r_iret (pc := 49) rfl rfl dX8_valueFor_49 ?_
        refine ⟨?_, rfl⟩
        first | (simp_all [vaF, rm4, bi]; done) | (simp only [Int32.not_lt, Int32.not_le, ge_iff_le, gt_iff_lt] at *; simp_all [vaF, rm4, bi, Int32.not_lt, Int32.not_le]; done) | (simp only [ge_iff_le, gt_iff_lt, ← Int32.not_lt, Classical.not_not] at *; simp_all [vaF, rm4, bi])
    · refine r_iload_n (pc := 24) dX8_valueFor_24 rfl rfl ?_
      refine r_iload_n (pc := 25) dX8_valueFor_25 rfl rfl ?_
      refine r_iadd (pc := 26) dX8_valueFor_26 ?_
      refine r_goto (pc := 27) (tgt := 45) dX8_valueFor_27 (by decide) ?_
      refine r_sipush (pc := 45) (v := 10000) dX8_valueFor_45 (by decide) ?_
      refine r_irem (pc := 48) dX8_valueFor_48 (by decide) ?_
      refine r_iret (pc := 49) rfl rfl dX8_valueFor_49 ?_
      refine ⟨?_, rfl⟩
      first | (simp_all [vaF, rm4, bi]; done) | (simp only [Int32.not_lt, Int32.not_le, ge_iff_le, gt_iff_lt] at *; simp_all [vaF, rm4, bi, Int32.not_lt, Int32.not_le]; done) | (simp only [ge_iff_le, gt_iff_lt, ← Int32.not_lt, Classical.not_not] at *; simp_all [vaF, rm4, bi])
  · refine r_iload_n (pc := 6) dX8_valueFor_6 rfl rfl ?_
    refine r_bipush (pc := 7) (v := 45) dX8_valueFor_7 (by decide) ?_
    refine r_icmp_eq (pc := 9) (tgt := 18) dX8_valueFor_9 (by decide) (fun h9 => ?_) (fun h9 => ?_)
    · refine r_iload_n (pc := 18) dX8_valueFor_18 rfl rfl ?_
      refine r_bipush (pc := 19) (v := 43) dX8_valueFor_19 (by decide) ?_
      refine r_icmp_ne (pc := 21) (tgt := 30) dX8_valueFor_21 (by decide) (fun h21 => ?_) (fun h21 => ?_)
      · refine r_iload_n (pc := 30) dX8_valueFor_30 rfl rfl ?_
        refine r_bipush (pc := 31) (v := 45) dX8_valueFor_31 (by decide) ?_
        refine r_icmp_ne (pc := 33) (tgt := 42) dX8_valueFor_33 (by decide) (fun h33 => ?_) (fun h33 => ?_)
        · refine r_iload_n (pc := 42) dX8_valueFor_42 rfl rfl ?_
          refine r_iload_n (pc := 43) dX8_valueFor_43 rfl rfl ?_
          refine r_imul (pc := 44) dX8_valueFor_44 ?_
          refine r_sipush (pc := 45) (v := 10000) dX8_valueFor_45 (by decide) ?_
          refine r_irem (pc := 48) dX8_valueFor_48 (by decide) ?_
          refine r_iret (pc := 49) rfl rfl dX8_valueFor_49 ?_
          refine ⟨?_, rfl⟩
          first | (simp_all [vaF, rm4, bi]; done) | (simp only [Int32.not_lt, Int32.not_le, ge_iff_le, gt_iff_lt] at *; simp_all [vaF, rm4, bi, Int32.not_lt, Int32.not_le]; done) | (simp only [ge_iff_le, gt_iff_lt, ← Int32.not_lt, Classical.not_not] at *; simp_all [vaF, rm4, bi])
        · refine r_iload_n (pc := 36) dX8_valueFor_36 rfl rfl ?_
          refine r_iload_n (pc := 37) dX8_valueFor_37 rfl rfl ?_
          refine r_isub (pc := 38) dX8_valueFor_38 ?_
          refine r_goto (pc := 39) (tgt := 45) dX8_valueFor_39 (by decide) ?_
          refine r_sipush (pc := 45) (v := 10000) dX8_valueFor_45 (by decide) ?_
          refine r_irem (pc := 48) dX8_valueFor_48 (by decide) ?_
          refine r_iret (pc := 49) rfl rfl dX8_valueFor_49 ?_
          refine ⟨?_, rfl⟩
          first | (simp_all [vaF, rm4, bi]; done) | (simp only [Int32.not_lt, Int32.not_le, ge_iff_le, gt_iff_lt] at *; simp_all [vaF, rm4, bi, Int32.not_lt, Int32.not_le]; done) | (simp only [ge_iff_le, gt_iff_lt, ← Int32.not_lt, Classical.not_not] at *; simp_all [vaF, rm4, bi])
      · refine r_iload_n (pc := 24) dX8_valueFor_24 rfl rfl ?_
        refine r_iload_n (pc := 25) dX8_valueFor_25 rfl rfl ?_
        refine r_iadd (pc := 26) dX8_valueFor_26 ?_
        refine r_goto (pc := 27) (tgt := 45) dX8_valueFor_27 (by decide) ?_
        refine r_sipush (pc := 45) (v := 10000) dX8_valueFor_45 (by decide) ?_
        refine r_irem (pc := 48) dX8_valueFor_48 (by decide) ?_
        refine r_iret (pc := 49) rfl rfl dX8_valueFor_49 ?_
        refine ⟨?_, rfl⟩
        first | (simp_all [vaF, rm4, bi]; done) | (simp only [Int32.not_lt, Int32.not_le, ge_iff_le, gt_iff_lt] at *; simp_all [vaF, rm4, bi, Int32.not_lt, Int32.not_le]; done) | (simp only [ge_iff_le, gt_iff_lt, ← Int32.not_lt, Classical.not_not] at *; simp_all [vaF, rm4, bi])
    · refine r_iload_n (pc := 12) dX8_valueFor_12 rfl rfl ?_
      refine r_bipush (pc := 13) (v := 42) dX8_valueFor_13 (by decide) ?_
      refine r_icmp_ne (pc := 15) (tgt := 50) dX8_valueFor_15 (by decide) (fun h15 => ?_) (fun h15 => ?_)
      · refine r_iload_n (pc := 50) dX8_valueFor_50 rfl rfl ?_
        refine r_bipush (pc := 51) (v := 60) dX8_valueFor_51 (by decide) ?_
        refine r_icmp_ne (pc := 53) (tgt := 69) dX8_valueFor_53 (by decide) (fun h53 => ?_) (fun h53 => ?_)
        · refine r_iload_n (pc := 69) dX8_valueFor_69 rfl rfl ?_
          refine r_bipush (pc := 70) (v := 62) dX8_valueFor_70 (by decide) ?_
          refine r_icmp_ne (pc := 72) (tgt := 88) dX8_valueFor_72 (by decide) (fun h72 => ?_) (fun h72 => ?_)
          · refine r_iload_n (pc := 88) dX8_valueFor_88 rfl rfl ?_
            refine r_bipush (pc := 89) (v := 61) dX8_valueFor_89 (by decide) ?_
            refine r_icmp_ne (pc := 91) (tgt := 107) dX8_valueFor_91 (by decide) (fun h91 => ?_) (fun h91 => ?_)
            · refine r_iload_n (pc := 107) dX8_valueFor_107 rfl rfl ?_
              refine r_bipush (pc := 108) (v := 38) dX8_valueFor_108 (by decide) ?_
              refine r_icmp_ne (pc := 110) (tgt := 131) dX8_valueFor_110 (by decide) (fun h110 => ?_) (fun h110 => ?_)
              · refine r_iload_n (pc := 131) dX8_valueFor_131 rfl rfl ?_
                refine r_iconst (pc := 132) (v := 1) dX8_valueFor_132 (by decide) ?_
                refine r_icmp_eq (pc := 133) (tgt := 141) dX8_valueFor_133 (by decide) (fun h133 => ?_) (fun h133 => ?_)
                · refine r_iconst (pc := 141) (v := 1) dX8_valueFor_141 (by decide) ?_
                  refine r_goto (pc := 142) (tgt := 146) dX8_valueFor_142 (by decide) ?_
                  refine r_istore_n (pc := 146) dX8_valueFor_146 rfl (Nat.le_of_ble_eq_true rfl) rfl ?_
                  refine r_iload_n (pc := 147) dX8_valueFor_147 rfl rfl ?_
                  refine r_if_eq (pc := 148) (tgt := 155) dX8_valueFor_148 (by decide) (fun h => absurd h (by decide)) (fun _ => ?_)
                  refine r_iconst (pc := 151) (v := 1) dX8_valueFor_151 (by decide) ?_
                  refine r_goto (pc := 152) (tgt := 156) dX8_valueFor_152 (by decide) ?_
                  refine r_iret (pc := 156) rfl rfl dX8_valueFor_156 ?_
                  refine ⟨?_, rfl⟩
                  first | (simp_all [vaF, rm4, bi]; done) | (simp only [Int32.not_lt, Int32.not_le, ge_iff_le, gt_iff_lt] at *; simp_all [vaF, rm4, bi, Int32.not_lt, Int32.not_le]; done) | (simp only [ge_iff_le, gt_iff_lt, ← Int32.not_lt, Classical.not_not] at *; simp_all [vaF, rm4, bi])
                · refine r_iload_n (pc := 136) dX8_valueFor_136 rfl rfl ?_
                  refine r_iconst (pc := 137) (v := 1) dX8_valueFor_137 (by decide) ?_
                  refine r_icmp_ne (pc := 138) (tgt := 145) dX8_valueFor_138 (by decide) (fun h138 => ?_) (fun h138 => ?_)
                  · refine r_iconst (pc := 145) (v := 0) dX8_valueFor_145 (by decide) ?_
                    refine r_istore_n (pc := 146) dX8_valueFor_146 rfl (Nat.le_of_ble_eq_true rfl) rfl ?_
                    refine r_iload_n (pc := 147) dX8_valueFor_147 rfl rfl ?_
                    refine r_if_eq (pc := 148) (tgt := 155) dX8_valueFor_148 (by decide) (fun _ => ?_) (fun h => absurd h (by decide))
                    refine r_iconst (pc := 155) (v := 0) dX8_valueFor_155 (by decide) ?_
                    refine r_iret (pc := 156) rfl rfl dX8_valueFor_156 ?_
                    refine ⟨?_, rfl⟩
                    first | (simp_all [vaF, rm4, bi]; done) | (simp only [Int32.not_lt, Int32.not_le, ge_iff_le, gt_iff_lt] at *; simp_all [vaF, rm4, bi, Int32.not_lt, Int32.not_le]; done) | (simp only [ge_iff_le, gt_iff_lt, ← Int32.not_lt, Classical.not_not] at *; simp_all [vaF, rm4, bi])
                  · refine r_iconst (pc := 141) (v := 1) dX8_valueFor_141 (by decide) ?_
                    refine r_goto (pc := 142) (tgt := 146) dX8_valueFor_142 (by decide) ?_
                    refine r_istore_n (pc := 146) dX8_valueFor_146 rfl (Nat.le_of_ble_eq_true rfl) rfl ?_
                    refine r_iload_n (pc := 147) dX8_valueFor_147 rfl rfl ?_
                    refine r_if_eq (pc := 148) (tgt := 155) dX8_valueFor_148 (by decide) (fun h => absurd h (by decide)) (fun _ => ?_)
                    refine r_iconst (pc := 151) (v := 1) dX8_valueFor_151 (by decide) ?_
                    refine r_goto (pc := 152) (tgt := 156) dX8_valueFor_152 (by decide) ?_
                    refine r_iret (pc := 156) rfl rfl dX8_valueFor_156 ?_
                    refine ⟨?_, rfl⟩
                    first | (simp_all [vaF, rm4, bi]; done) | (simp only [Int32.not_lt, Int32.not_le, ge_iff_le, gt_iff_lt] at *; simp_all [vaF, rm4, bi, Int32.not_lt, Int32.not_le]; done) | (simp only [ge_iff_le, gt_iff_lt, ← Int32.not_lt, Classical.not_not] at *; simp_all [vaF, rm4, bi])
              · refine r_iload_n (pc := 113) dX8_valueFor_113 rfl rfl ?_
                refine r_iconst (pc := 114) (v := 1) dX8_valueFor_114 (by decide) ?_
                refine r_icmp_ne (pc := 115) (tgt := 127) dX8_valueFor_115 (by decide) (fun h115 => ?_) (fun h115 => ?_)
                · refine r_iconst (pc := 127) (v := 0) dX8_valueFor_127 (by decide) ?_
                  refine r_goto (pc := 128) (tgt := 146) dX8_valueFor_128 (by decide) ?_
                  refine r_istore_n (pc := 146) dX8_valueFor_146 rfl (Nat.le_of_ble_eq_true rfl) rfl ?_
                  refine r_iload_n (pc := 147) dX8_valueFor_147 rfl rfl ?_
                  refine r_if_eq (pc := 148) (tgt := 155) dX8_valueFor_148 (by decide) (fun _ => ?_) (fun h => absurd h (by decide))
                  refine r_iconst (pc := 155) (v := 0) dX8_valueFor_155 (by decide) ?_
                  refine r_iret (pc := 156) rfl rfl dX8_valueFor_156 ?_
                  refine ⟨?_, rfl⟩
                  first | (simp_all [vaF, rm4, bi]; done) | (simp only [Int32.not_lt, Int32.not_le, ge_iff_le, gt_iff_lt] at *; simp_all [vaF, rm4, bi, Int32.not_lt, Int32.not_le]; done) | (simp only [ge_iff_le, gt_iff_lt, ← Int32.not_lt, Classical.not_not] at *; simp_all [vaF, rm4, bi])
                · refine r_iload_n (pc := 118) dX8_valueFor_118 rfl rfl ?_
                  refine r_iconst (pc := 119) (v := 1) dX8_valueFor_119 (by decide) ?_
                  refine r_icmp_ne (pc := 120) (tgt := 127) dX8_valueFor_120 (by decide) (fun h120 => ?_) (fun h120 => ?_)
                  · refine r_iconst (pc := 127) (v := 0) dX8_valueFor_127 (by decide) ?_
                    refine r_goto (pc := 128) (tgt := 146) dX8_valueFor_128 (by decide) ?_
                    refine r_istore_n (pc := 146) dX8_valueFor_146 rfl (Nat.le_of_ble_eq_true rfl) rfl ?_
                    refine r_iload_n (pc := 147) dX8_valueFor_147 rfl rfl ?_
                    refine r_if_eq (pc := 148) (tgt := 155) dX8_valueFor_148 (by decide) (fun _ => ?_) (fun h => absurd h (by decide))
                    refine r_iconst (pc := 155) (v := 0) dX8_valueFor_155 (by decide) ?_
                    refine r_iret (pc := 156) rfl rfl dX8_valueFor_156 ?_
                    refine ⟨?_, rfl⟩
                    first | (simp_all [vaF, rm4, bi]; done) | (simp only [Int32.not_lt, Int32.not_le, ge_iff_le, gt_iff_lt] at *; simp_all [vaF, rm4, bi, Int32.not_lt, Int32.not_le]; done) | (simp only [ge_iff_le, gt_iff_lt, ← Int32.not_lt, Classical.not_not] at *; simp_all [vaF, rm4, bi])
                  · refine r_iconst (pc := 123) (v := 1) dX8_valueFor_123 (by decide) ?_
                    refine r_goto (pc := 124) (tgt := 146) dX8_valueFor_124 (by decide) ?_
                    refine r_istore_n (pc := 146) dX8_valueFor_146 rfl (Nat.le_of_ble_eq_true rfl) rfl ?_
                    refine r_iload_n (pc := 147) dX8_valueFor_147 rfl rfl ?_
                    refine r_if_eq (pc := 148) (tgt := 155) dX8_valueFor_148 (by decide) (fun h => absurd h (by decide)) (fun _ => ?_)
                    refine r_iconst (pc := 151) (v := 1) dX8_valueFor_151 (by decide) ?_
                    refine r_goto (pc := 152) (tgt := 156) dX8_valueFor_152 (by decide) ?_
                    refine r_iret (pc := 156) rfl rfl dX8_valueFor_156 ?_
                    refine ⟨?_, rfl⟩
                    first | (simp_all [vaF, rm4, bi]; done) | (simp only [Int32.not_lt, Int32.not_le, ge_iff_le, gt_iff_lt] at *; simp_all [vaF, rm4, bi, Int32.not_lt, Int32.not_le]; done) | (simp only [ge_iff_le, gt_iff_lt, ← Int32.not_lt, Classical.not_not] at *; simp_all [vaF, rm4, bi])
            · refine r_iload_n (pc := 94) dX8_valueFor_94 rfl rfl ?_
              refine r_iload_n (pc := 95) dX8_valueFor_95 rfl rfl ?_
              refine r_icmp_ne (pc := 96) (tgt := 103) dX8_valueFor_96 (by decide) (fun h96 => ?_) (fun h96 => ?_)
              · refine r_iconst (pc := 103) (v := 0) dX8_valueFor_103 (by decide) ?_
                refine r_goto (pc := 104) (tgt := 146) dX8_valueFor_104 (by decide) ?_
                refine r_istore_n (pc := 146) dX8_valueFor_146 rfl (Nat.le_of_ble_eq_true rfl) rfl ?_
                refine r_iload_n (pc := 147) dX8_valueFor_147 rfl rfl ?_
                refine r_if_eq (pc := 148) (tgt := 155) dX8_valueFor_148 (by decide) (fun _ => ?_) (fun h => absurd h (by decide))
                refine r_iconst (pc := 155) (v := 0) dX8_valueFor_155 (by decide) ?_
                refine r_iret (pc := 156) rfl rfl dX8_valueFor_156 ?_
                refine ⟨?_, rfl⟩
                first | (simp_all [vaF, rm4, bi]; done) | (simp only [Int32.not_lt, Int32.not_le, ge_iff_le, gt_iff_lt] at *; simp_all [vaF, rm4, bi, Int32.not_lt, Int32.not_le]; done) | (simp only [ge_iff_le, gt_iff_lt, ← Int32.not_lt, Classical.not_not] at *; simp_all [vaF, rm4, bi])
              · refine r_iconst (pc := 99) (v := 1) dX8_valueFor_99 (by decide) ?_
                refine r_goto (pc := 100) (tgt := 146) dX8_valueFor_100 (by decide) ?_
                refine r_istore_n (pc := 146) dX8_valueFor_146 rfl (Nat.le_of_ble_eq_true rfl) rfl ?_
                refine r_iload_n (pc := 147) dX8_valueFor_147 rfl rfl ?_
                refine r_if_eq (pc := 148) (tgt := 155) dX8_valueFor_148 (by decide) (fun h => absurd h (by decide)) (fun _ => ?_)
                refine r_iconst (pc := 151) (v := 1) dX8_valueFor_151 (by decide) ?_
                refine r_goto (pc := 152) (tgt := 156) dX8_valueFor_152 (by decide) ?_
                refine r_iret (pc := 156) rfl rfl dX8_valueFor_156 ?_
                refine ⟨?_, rfl⟩
                first | (simp_all [vaF, rm4, bi]; done) | (simp only [Int32.not_lt, Int32.not_le, ge_iff_le, gt_iff_lt] at *; simp_all [vaF, rm4, bi, Int32.not_lt, Int32.not_le]; done) | (simp only [ge_iff_le, gt_iff_lt, ← Int32.not_lt, Classical.not_not] at *; simp_all [vaF, rm4, bi])
          · refine r_iload_n (pc := 75) dX8_valueFor_75 rfl rfl ?_
            refine r_iload_n (pc := 76) dX8_valueFor_76 rfl rfl ?_
            refine r_icmp_le (pc := 77) (tgt := 84) dX8_valueFor_77 (by decide) (fun h77 => ?_) (fun h77 => ?_)
            · refine r_iconst (pc := 84) (v := 0) dX8_valueFor_84 (by decide) ?_
              refine r_goto (pc := 85) (tgt := 146) dX8_valueFor_85 (by decide) ?_
              refine r_istore_n (pc := 146) dX8_valueFor_146 rfl (Nat.le_of_ble_eq_true rfl) rfl ?_
              refine r_iload_n (pc := 147) dX8_valueFor_147 rfl rfl ?_
              refine r_if_eq (pc := 148) (tgt := 155) dX8_valueFor_148 (by decide) (fun _ => ?_) (fun h => absurd h (by decide))
              refine r_iconst (pc := 155) (v := 0) dX8_valueFor_155 (by decide) ?_
              refine r_iret (pc := 156) rfl rfl dX8_valueFor_156 ?_
              refine ⟨?_, rfl⟩
              first | (simp_all [vaF, rm4, bi]; done) | (simp only [Int32.not_lt, Int32.not_le, ge_iff_le, gt_iff_lt] at *; simp_all [vaF, rm4, bi, Int32.not_lt, Int32.not_le]; done) | (simp only [ge_iff_le, gt_iff_lt, ← Int32.not_lt, Classical.not_not] at *; simp_all [vaF, rm4, bi])
            · refine r_iconst (pc := 80) (v := 1) dX8_valueFor_80 (by decide) ?_
              refine r_goto (pc := 81) (tgt := 146) dX8_valueFor_81 (by decide) ?_
              refine r_istore_n (pc := 146) dX8_valueFor_146 rfl (Nat.le_of_ble_eq_true rfl) rfl ?_
              refine r_iload_n (pc := 147) dX8_valueFor_147 rfl rfl ?_
              refine r_if_eq (pc := 148) (tgt := 155) dX8_valueFor_148 (by decide) (fun h => absurd h (by decide)) (fun _ => ?_)
              refine r_iconst (pc := 151) (v := 1) dX8_valueFor_151 (by decide) ?_
              refine r_goto (pc := 152) (tgt := 156) dX8_valueFor_152 (by decide) ?_
              refine r_iret (pc := 156) rfl rfl dX8_valueFor_156 ?_
              refine ⟨?_, rfl⟩
              first | (simp_all [vaF, rm4, bi]; done) | (simp only [Int32.not_lt, Int32.not_le, ge_iff_le, gt_iff_lt] at *; simp_all [vaF, rm4, bi, Int32.not_lt, Int32.not_le]; done) | (simp only [ge_iff_le, gt_iff_lt, ← Int32.not_lt, Classical.not_not] at *; simp_all [vaF, rm4, bi])
        · refine r_iload_n (pc := 56) dX8_valueFor_56 rfl rfl ?_
          refine r_iload_n (pc := 57) dX8_valueFor_57 rfl rfl ?_
          refine r_icmp_ge (pc := 58) (tgt := 65) dX8_valueFor_58 (by decide) (fun h58 => ?_) (fun h58 => ?_)
          · refine r_iconst (pc := 65) (v := 0) dX8_valueFor_65 (by decide) ?_
            refine r_goto (pc := 66) (tgt := 146) dX8_valueFor_66 (by decide) ?_
            refine r_istore_n (pc := 146) dX8_valueFor_146 rfl (Nat.le_of_ble_eq_true rfl) rfl ?_
            refine r_iload_n (pc := 147) dX8_valueFor_147 rfl rfl ?_
            refine r_if_eq (pc := 148) (tgt := 155) dX8_valueFor_148 (by decide) (fun _ => ?_) (fun h => absurd h (by decide))
            refine r_iconst (pc := 155) (v := 0) dX8_valueFor_155 (by decide) ?_
            refine r_iret (pc := 156) rfl rfl dX8_valueFor_156 ?_
            refine ⟨?_, rfl⟩
            first | (simp_all [vaF, rm4, bi]; done) | (simp only [Int32.not_lt, Int32.not_le, ge_iff_le, gt_iff_lt] at *; simp_all [vaF, rm4, bi, Int32.not_lt, Int32.not_le]; done) | (simp only [ge_iff_le, gt_iff_lt, ← Int32.not_lt, Classical.not_not] at *; simp_all [vaF, rm4, bi])
          · refine r_iconst (pc := 61) (v := 1) dX8_valueFor_61 (by decide) ?_
            refine r_goto (pc := 62) (tgt := 146) dX8_valueFor_62 (by decide) ?_
            refine r_istore_n (pc := 146) dX8_valueFor_146 rfl (Nat.le_of_ble_eq_true rfl) rfl ?_
            refine r_iload_n (pc := 147) dX8_valueFor_147 rfl rfl ?_
            refine r_if_eq (pc := 148) (tgt := 155) dX8_valueFor_148 (by decide) (fun h => absurd h (by decide)) (fun _ => ?_)
            refine r_iconst (pc := 151) (v := 1) dX8_valueFor_151 (by decide) ?_
            refine r_goto (pc := 152) (tgt := 156) dX8_valueFor_152 (by decide) ?_
            refine r_iret (pc := 156) rfl rfl dX8_valueFor_156 ?_
            refine ⟨?_, rfl⟩
            first | (simp_all [vaF, rm4, bi]; done) | (simp only [Int32.not_lt, Int32.not_le, ge_iff_le, gt_iff_lt] at *; simp_all [vaF, rm4, bi, Int32.not_lt, Int32.not_le]; done) | (simp only [ge_iff_le, gt_iff_lt, ← Int32.not_lt, Classical.not_not] at *; simp_all [vaF, rm4, bi])
      · refine r_iload_n (pc := 18) dX8_valueFor_18 rfl rfl ?_
        refine r_bipush (pc := 19) (v := 43) dX8_valueFor_19 (by decide) ?_
        refine r_icmp_ne (pc := 21) (tgt := 30) dX8_valueFor_21 (by decide) (fun h21 => ?_) (fun h21 => ?_)
        · refine r_iload_n (pc := 30) dX8_valueFor_30 rfl rfl ?_
          refine r_bipush (pc := 31) (v := 45) dX8_valueFor_31 (by decide) ?_
          refine r_icmp_ne (pc := 33) (tgt := 42) dX8_valueFor_33 (by decide) (fun h33 => ?_) (fun h33 => ?_)
          · refine r_iload_n (pc := 42) dX8_valueFor_42 rfl rfl ?_
            refine r_iload_n (pc := 43) dX8_valueFor_43 rfl rfl ?_
            refine r_imul (pc := 44) dX8_valueFor_44 ?_
            refine r_sipush (pc := 45) (v := 10000) dX8_valueFor_45 (by decide) ?_
            refine r_irem (pc := 48) dX8_valueFor_48 (by decide) ?_
            refine r_iret (pc := 49) rfl rfl dX8_valueFor_49 ?_
            refine ⟨?_, rfl⟩
            first | (simp_all [vaF, rm4, bi]; done) | (simp only [Int32.not_lt, Int32.not_le, ge_iff_le, gt_iff_lt] at *; simp_all [vaF, rm4, bi, Int32.not_lt, Int32.not_le]; done) | (simp only [ge_iff_le, gt_iff_lt, ← Int32.not_lt, Classical.not_not] at *; simp_all [vaF, rm4, bi])
          · refine r_iload_n (pc := 36) dX8_valueFor_36 rfl rfl ?_
            refine r_iload_n (pc := 37) dX8_valueFor_37 rfl rfl ?_
            refine r_isub (pc := 38) dX8_valueFor_38 ?_
            refine r_goto (pc := 39) (tgt := 45) dX8_valueFor_39 (by decide) ?_
            refine r_sipush (pc := 45) (v := 10000) dX8_valueFor_45 (by decide) ?_
            refine r_irem (pc := 48) dX8_valueFor_48 (by decide) ?_
            refine r_iret (pc := 49) rfl rfl dX8_valueFor_49 ?_
            refine ⟨?_, rfl⟩
            first | (simp_all [vaF, rm4, bi]; done) | (simp only [Int32.not_lt, Int32.not_le, ge_iff_le, gt_iff_lt] at *; simp_all [vaF, rm4, bi, Int32.not_lt, Int32.not_le]; done) | (simp only [ge_iff_le, gt_iff_lt, ← Int32.not_lt, Classical.not_not] at *; simp_all [vaF, rm4, bi])
        · refine r_iload_n (pc := 24) dX8_valueFor_24 rfl rfl ?_
          refine r_iload_n (pc := 25) dX8_valueFor_25 rfl rfl ?_
          refine r_iadd (pc := 26) dX8_valueFor_26 ?_
          refine r_goto (pc := 27) (tgt := 45) dX8_valueFor_27 (by decide) ?_
          refine r_sipush (pc := 45) (v := 10000) dX8_valueFor_45 (by decide) ?_
          refine r_irem (pc := 48) dX8_valueFor_48 (by decide) ?_
          refine r_iret (pc := 49) rfl rfl dX8_valueFor_49 ?_
          refine ⟨?_, rfl⟩
          first | (simp_all [vaF, rm4, bi]; done) | (simp only [Int32.not_lt, Int32.not_le, ge_iff_le, gt_iff_lt] at *; simp_all [vaF, rm4, bi, Int32.not_lt, Int32.not_le]; done) | (simp only [ge_iff_le, gt_iff_lt, ← Int32.not_lt, Classical.not_not] at *; simp_all [vaF, rm4, bi])

theorem okL_ix {c : Int32} {row : List Int32} (h : okL row) (hm : c ∈ row) (h1 : ¬ c < 1000) (h2 : c < 2000) : ∃ j : Nat, j < 6 ∧ c - 1000 = nI j ∧ (c - 1000).toNatClampNeg = j := by
  obtain ⟨j, hj, rfl⟩ := (h c hm).2 (Int32.not_lt.mp h1) h2
  have e : nI (1000 + j) - 1000 = nI j := by
    rw [show (1000 : Int32) = nI 1000 by decide, pk_sub (by omega)]
    exact congrArg nI (by omega)
  exact ⟨j, hj, e, by rw [e]; exact nI_clamp (by omega)⟩
theorem stk_2 {f : Nat → Int32} {b a x : Int32} {s : List Int32} (h : stk f (b :: a :: s)) : stk (upd f s.length x) (x :: s) := stk_push h.2.2
theorem m1k (s : Nat) : nI (s + 1) + (-1) = nI s := pk_m1 s
theorem s1k (s : Nat) : nI (s + 1) - 1 = nI s := pk_sub (b := 1) (Nat.succ_le_succ (Nat.zero_le _))
set_option maxRecDepth 100000 in
set_option maxHeartbeats 4000000 in
theorem to_loop17 {G : aw_G} {P T : List va_E} {sc0 : Nat → Int32} {ar0 : Nat → Nat → Int32} (hP : P.length = 12) (t : Int32) (a0 n : Nat) (hb : a0 + n ≤ 40) (hn40 : n ≤ 40) : ∀ (cs : List Int32) (i : Nat) (st : List Int32) (sc : Nat → Int32) (ar : Nat → Nat → Int32), ag [] [21] sc0 ar0 sc ar → (∀ j x, cs[j]? = some x → ar0 17 (a0 + i + j) = x) → i + cs.length = n → okL cs → tyR (ar0 4) cs st = some [t] → stk (ar 21) st → st.length ≤ i → AW G fX8_typeOf 0 0 (mw P sc ar T) 6 [some (.ref 12), some (.ref 24), some (.int (nI a0)), some (.int (nI n)), some (.int (nI st.length)), some (.int (nI (a0 + i))), none] [] (qm P T (.inl (some (.int t))) (fun sc2 ar2 => ag [] [21] sc0 ar0 sc2 ar2)) := by
  intro cs
  induction cs with
  | nil =>
    intro i st sc ar hag hpl hn hok hrp hs hsl
    refine r_iload (pc := 6) dX8_typeOf_6 rfl ?_
    refine r_iload_n (pc := 8) dX8_typeOf_8 rfl rfl ?_
    refine r_iload_n (pc := 9) dX8_typeOf_9 rfl rfl ?_
    refine r_iadd (pc := 10) dX8_typeOf_10 ?_
    refine r_icmp_ge (pc := 11) (tgt := 173) dX8_typeOf_11 (by decide) (fun h11 => ?_) (fun h => absurd (by rw [nI_add, show a0 + i = a0 + n by simp at hn; omega]; exact Int32.le_refl _) h)
    refine r_aload_n (pc := 173) dX8_typeOf_173 rfl rfl ?_
    refine mg_50 (pc := 174) hP rfl dX8_typeOf_174 ?_
    refine r_iconst (pc := 177) (v := 0) dX8_typeOf_177 (by decide) ?_
    refine mln_21 (pc := 178) (0) hP ⟨rfl, by decide⟩ dX8_typeOf_178 ?_
    refine r_iret (pc := 179) rfl rfl dX8_typeOf_179 ?_
    have h9 : some st = some [t] := hrp
    cases h9
    exact ⟨by rw [show ar 21 0 = t from hs.1], sc, ar, rfl, hag⟩
  | cons c cs ih =>
    intro i st sc ar hag hpl hn hok hrp hs hsl
    refine r_iload (pc := 6) dX8_typeOf_6 rfl ?_
    refine r_iload_n (pc := 8) dX8_typeOf_8 rfl rfl ?_
    refine r_iload_n (pc := 9) dX8_typeOf_9 rfl rfl ?_
    refine r_iadd (pc := 10) dX8_typeOf_10 ?_
    refine r_icmp_ge (pc := 11) (tgt := 173) dX8_typeOf_11 (by decide) (fun h => absurd h (by rw [nI_add]; exact nI_ge9 (by simp at hn; omega) (by simp at hn; omega))) (fun h11 => ?_)
    refine r_aload_n (pc := 14) dX8_typeOf_14 rfl rfl ?_
    refine r_iload (pc := 15) dX8_typeOf_15 rfl ?_
    refine mln_17 (pc := 17) (a0 + i) hP ⟨rfl, by simp at hn; omega⟩ dX8_typeOf_17 ?_
    rw [show ar 17 (a0 + i) = c from by rw [hag.2 17 (by decide)]; exact hpl 0 c rfl]
    refine r_istore (pc := 18) dX8_typeOf_18 (Nat.le_of_ble_eq_true rfl) rfl ?_
    refine r_iload (pc := 20) dX8_typeOf_20 rfl ?_
    refine r_sipush (pc := 22) (v := 1000) dX8_typeOf_22 (by decide) ?_
    refine r_icmp_ge (pc := 25) (tgt := 42) dX8_typeOf_25 (by decide) (fun h25 => ?_) (fun h25 => ?_)
    · refine r_iload (pc := 42) dX8_typeOf_42 rfl ?_
      refine r_sipush (pc := 44) (v := 2000) dX8_typeOf_44 (by decide) ?_
      refine r_icmp_ge (pc := 47) (tgt := 92) dX8_typeOf_47 (by decide) (fun h47 => ?_) (fun h47 => ?_)
      · refine r_iload (pc := 92) dX8_typeOf_92 rfl ?_
        refine r_sipush (pc := 94) (v := 2033) dX8_typeOf_94 (by decide) ?_
        refine r_icmp_ne (pc := 97) (tgt := 130) dX8_typeOf_97 (by decide) (fun h97 => ?_) (fun h97 => ?_)
        · have hge : ¬ c < 1000 := Int32.not_lt.mpr h25
          have hge2 : ¬ c < 2000 := Int32.not_lt.mpr h47
          have hne : ¬ c = 2033 := h97
          obtain ⟨b, a, s, rfl⟩ := rp_bin hge hge2 hne hrp
          rw [show nI (b :: a :: s).length = nI (s.length + 1 + 1) from rfl]
          refine r_iincK (pc := 130) (k9 := -1) dX8_typeOf_130 (by decide) rfl (Nat.le_of_ble_eq_true rfl) rfl ?_
          rw [m1k]
          refine r_aload_n (pc := 133) dX8_typeOf_133 rfl rfl ?_
          refine mg_50 (pc := 134) hP rfl dX8_typeOf_134 ?_
          refine r_iload (pc := 137) dX8_typeOf_137 rfl ?_
          refine r_iconst (pc := 139) (v := 1) dX8_typeOf_139 (by decide) ?_
          refine r_isub (pc := 140) dX8_typeOf_140 ?_
          refine r_iload (pc := 141) dX8_typeOf_141 rfl ?_
          refine r_sipush (pc := 143) (v := 2000) dX8_typeOf_143 (by decide) ?_
          refine r_isub (pc := 146) dX8_typeOf_146 ?_
          refine r_aload_n (pc := 147) dX8_typeOf_147 rfl rfl ?_
          refine mg_50 (pc := 148) hP rfl dX8_typeOf_148 ?_
          refine r_iload (pc := 151) dX8_typeOf_151 rfl ?_
          refine r_iconst (pc := 153) (v := 1) dX8_typeOf_153 (by decide) ?_
          refine r_isub (pc := 154) dX8_typeOf_154 ?_
          refine mln_21 (pc := 155) (s.length) hP ⟨s1k _, by simp at hn hsl; omega⟩ dX8_typeOf_155 ?_
          refine r_aload_n (pc := 156) dX8_typeOf_156 rfl rfl ?_
          refine mg_50 (pc := 157) hP rfl dX8_typeOf_157 ?_
          refine r_iload (pc := 160) dX8_typeOf_160 rfl ?_
          refine mln_21 (pc := 162) (s.length + 1) hP ⟨rfl, by simp at hn hsl; omega⟩ dX8_typeOf_162 ?_
          refine s_X8_119 (pc := 163) (kc' := 0) (ks' := 0) rfl rfl (am_typeFor _ _ _)  (Nat.le_of_ble_eq_true rfl) (Nat.le_of_ble_eq_true rfl) (Nat.le_of_ble_eq_true rfl) (Nat.le_of_ble_eq_true rfl) (by exact (Nat.le_of_ble_eq_true rfl)) rfl (List.forall_mem_cons.mpr ⟨rfl, (List.forall_mem_cons.mpr ⟨rfl, (List.forall_mem_cons.mpr ⟨rfl, fun _ h => nomatch h⟩)⟩)⟩) rfl dX8_typeOf_163 aw_kt (aw_kq ?_)
          refine msn_21 (pc := 166) (s.length) hP ⟨s1k _, by simp at hn hsl; omega⟩ dX8_typeOf_166 ?_
          refine r_iincK (pc := 167) (k9 := 1) dX8_typeOf_167 (by decide) rfl (Nat.le_of_ble_eq_true rfl) rfl ?_
          refine r_goto (pc := 170) (tgt := 6) dX8_typeOf_170 (by decide) ?_
          have hc9 : ∀ j x, cs[j]? = some x → ar0 17 (a0 + (i + 1) + j) = x := fun j x hx => by
            rw [show a0 + (i + 1) + j = a0 + i + (j + 1) by omega]; exact hpl (j + 1) x (by simpa using hx)
          refine AW_drop 6 rfl ?_
          rw [nI_1]
          refine ih (i + 1) (tyF (c - 2000) a b :: s) sc _ (ag_a hag 21 _ (by decide)) hc9 (by simp at hn ⊢; omega) (fun x hx => hok x (List.mem_cons_of_mem _ hx)) ?_ ?_ (by simp at hsl ⊢; omega)
          · rw [← hrp, tyR_bin hge hge2 hne]
          · rw [va_up_self, show ar 21 (s.length + 1) = b from hs.1, show ar 21 s.length = a from hs.2.1]
            exact stk_2 hs
        · have hc : c = 2033 := h97
          subst hc
          obtain ⟨a, s, rfl⟩ := rp_bng hrp
          refine r_aload_n (pc := 100) dX8_typeOf_100 rfl rfl ?_
          refine mg_50 (pc := 101) hP rfl dX8_typeOf_101 ?_
          refine r_iload (pc := 104) dX8_typeOf_104 rfl ?_
          refine r_iconst (pc := 106) (v := 1) dX8_typeOf_106 (by decide) ?_
          refine r_isub (pc := 107) dX8_typeOf_107 ?_
          refine r_aload_n (pc := 108) dX8_typeOf_108 rfl rfl ?_
          refine mg_50 (pc := 109) hP rfl dX8_typeOf_109 ?_
          refine r_iload (pc := 112) dX8_typeOf_112 rfl ?_
          refine r_iconst (pc := 114) (v := 1) dX8_typeOf_114 (by decide) ?_
          refine r_isub (pc := 115) dX8_typeOf_115 ?_
          refine mln_21 (pc := 116) (s.length) hP ⟨s1k _, by simp at hn hsl; omega⟩ dX8_typeOf_116 ?_
          refine r_iconst (pc := 117) (v := 2) dX8_typeOf_117 (by decide) ?_
          refine r_icmp_ne (pc := 118) (tgt := 125) dX8_typeOf_118 (by decide) (fun h118 => ?_) (fun h118 => ?_)
          · refine r_iconst (pc := 125) (v := -1) dX8_typeOf_125 (by decide) ?_
            refine msn_21 (pc := 126) (s.length) hP ⟨s1k _, by simp at hn hsl; omega⟩ dX8_typeOf_126 ?_
            refine r_goto (pc := 127) (tgt := 167) dX8_typeOf_127 (by decide) ?_
            refine r_iincK (pc := 167) (k9 := 1) dX8_typeOf_167 (by decide) rfl (Nat.le_of_ble_eq_true rfl) rfl ?_
            refine r_goto (pc := 170) (tgt := 6) dX8_typeOf_170 (by decide) ?_
            have hc9 : ∀ j x, cs[j]? = some x → ar0 17 (a0 + (i + 1) + j) = x := fun j x hx => by
              rw [show a0 + (i + 1) + j = a0 + i + (j + 1) by omega]; exact hpl (j + 1) x (by simpa using hx)
            refine AW_drop 6 rfl ?_
            rw [nI_1]
            refine ih (i + 1) (tyB a :: s) sc _ (ag_a hag 21 _ (by decide)) hc9 (by simp at hn ⊢; omega) (fun x hx => hok x (List.mem_cons_of_mem _ hx)) ?_ ?_ (by simp at hsl ⊢; omega)
            · rw [← hrp, tyR_bng]
            · rw [va_up_self]
              have e : tyB a = -1 := by unfold tyB; rw [← hs.1]; exact if_neg h118
              rw [e]
              exact stk_top hs
          · refine r_iconst (pc := 121) (v := 2) dX8_typeOf_121 (by decide) ?_
            refine r_goto (pc := 122) (tgt := 126) dX8_typeOf_122 (by decide) ?_
            refine msn_21 (pc := 126) (s.length) hP ⟨s1k _, by simp at hn hsl; omega⟩ dX8_typeOf_126 ?_
            refine r_goto (pc := 127) (tgt := 167) dX8_typeOf_127 (by decide) ?_
            refine r_iincK (pc := 167) (k9 := 1) dX8_typeOf_167 (by decide) rfl (Nat.le_of_ble_eq_true rfl) rfl ?_
            refine r_goto (pc := 170) (tgt := 6) dX8_typeOf_170 (by decide) ?_
            have hc9 : ∀ j x, cs[j]? = some x → ar0 17 (a0 + (i + 1) + j) = x := fun j x hx => by
              rw [show a0 + (i + 1) + j = a0 + i + (j + 1) by omega]; exact hpl (j + 1) x (by simpa using hx)
            refine AW_drop 6 rfl ?_
            rw [nI_1]
            refine ih (i + 1) (tyB a :: s) sc _ (ag_a hag 21 _ (by decide)) hc9 (by simp at hn ⊢; omega) (fun x hx => hok x (List.mem_cons_of_mem _ hx)) ?_ ?_ (by simp at hsl ⊢; omega)
            · rw [← hrp, tyR_bng]
            · rw [va_up_self]
              have e : tyB a = 2 := by unfold tyB; rw [← hs.1]; exact if_pos h118
              rw [e]
              exact stk_top hs
      · have hge : ¬ c < 1000 := Int32.not_lt.mpr h25
        have hlt2 : c < 2000 := Int32.not_le.mp h47
        obtain ⟨j, hj, hj2, hj3⟩ := okL_ix hok List.mem_cons_self hge hlt2
        have ht4 : ar 4 j = ar0 4 j := by rw [hag.2 4 (by decide)]
        refine r_aload_n (pc := 50) dX8_typeOf_50 rfl rfl ?_
        refine mg_50 (pc := 51) hP rfl dX8_typeOf_51 ?_
        refine r_iload (pc := 54) dX8_typeOf_54 rfl ?_
        refine r_aload_n (pc := 56) dX8_typeOf_56 rfl rfl ?_
        refine mg_19 (pc := 57) hP rfl dX8_typeOf_57 ?_
        refine r_iload (pc := 60) dX8_typeOf_60 rfl ?_
        refine r_sipush (pc := 62) (v := 1000) dX8_typeOf_62 (by decide) ?_
        refine r_isub (pc := 65) dX8_typeOf_65 ?_
        refine mln_4 (pc := 66) (j) hP ⟨hj2, by omega⟩ dX8_typeOf_66 ?_
        refine r_if_ne (pc := 67) (tgt := 74) dX8_typeOf_67 (by decide) (fun h67 => ?_) (fun h67 => ?_)
        · refine r_aload_n (pc := 74) dX8_typeOf_74 rfl rfl ?_
          refine mg_19 (pc := 75) hP rfl dX8_typeOf_75 ?_
          refine r_iload (pc := 78) dX8_typeOf_78 rfl ?_
          refine r_sipush (pc := 80) (v := 1000) dX8_typeOf_80 (by decide) ?_
          refine r_isub (pc := 83) dX8_typeOf_83 ?_
          refine mln_4 (pc := 84) (j) hP ⟨hj2, by omega⟩ dX8_typeOf_84 ?_
          refine msn_21 (pc := 85) (st.length) hP ⟨rfl, by simp at hn; omega⟩ dX8_typeOf_85 ?_
          refine r_iincK (pc := 86) (k9 := 1) dX8_typeOf_86 (by decide) rfl (Nat.le_of_ble_eq_true rfl) rfl ?_
          refine r_goto (pc := 89) (tgt := 167) dX8_typeOf_89 (by decide) ?_
          refine r_iincK (pc := 167) (k9 := 1) dX8_typeOf_167 (by decide) rfl (Nat.le_of_ble_eq_true rfl) rfl ?_
          refine r_goto (pc := 170) (tgt := 6) dX8_typeOf_170 (by decide) ?_
          have hc9 : ∀ j x, cs[j]? = some x → ar0 17 (a0 + (i + 1) + j) = x := fun j x hx => by
            rw [show a0 + (i + 1) + j = a0 + i + (j + 1) by omega]; exact hpl (j + 1) x (by simpa using hx)
          refine AW_drop 6 rfl ?_
          rw [nI_1]
          rw [nI_1]
          refine ih (i + 1) (tyL (ar0 4) j :: st) sc _ (ag_a hag 21 _ (by decide)) hc9 (by simp at hn ⊢; omega) (fun x hx => hok x (List.mem_cons_of_mem _ hx)) ?_ ?_ (by simp; omega)
          · rw [← hrp, tyR_let hge hlt2, hj3]
          · rw [va_up_self]
            have e : tyL (ar0 4) j = ar 4 j := by unfold tyL; rw [← ht4]; exact if_neg h67
            rw [e]
            exact stk_push hs
        · refine r_iconst (pc := 70) (v := -1) dX8_typeOf_70 (by decide) ?_
          refine r_goto (pc := 71) (tgt := 85) dX8_typeOf_71 (by decide) ?_
          refine msn_21 (pc := 85) (st.length) hP ⟨rfl, by simp at hn; omega⟩ dX8_typeOf_85 ?_
          refine r_iincK (pc := 86) (k9 := 1) dX8_typeOf_86 (by decide) rfl (Nat.le_of_ble_eq_true rfl) rfl ?_
          refine r_goto (pc := 89) (tgt := 167) dX8_typeOf_89 (by decide) ?_
          refine r_iincK (pc := 167) (k9 := 1) dX8_typeOf_167 (by decide) rfl (Nat.le_of_ble_eq_true rfl) rfl ?_
          refine r_goto (pc := 170) (tgt := 6) dX8_typeOf_170 (by decide) ?_
          have hc9 : ∀ j x, cs[j]? = some x → ar0 17 (a0 + (i + 1) + j) = x := fun j x hx => by
            rw [show a0 + (i + 1) + j = a0 + i + (j + 1) by omega]; exact hpl (j + 1) x (by simpa using hx)
          refine AW_drop 6 rfl ?_
          rw [nI_1]
          rw [nI_1]
          refine ih (i + 1) (tyL (ar0 4) j :: st) sc _ (ag_a hag 21 _ (by decide)) hc9 (by simp at hn ⊢; omega) (fun x hx => hok x (List.mem_cons_of_mem _ hx)) ?_ ?_ (by simp; omega)
          · rw [← hrp, tyR_let hge hlt2, hj3]
          · rw [va_up_self]
            have e : tyL (ar0 4) j = -1 := by unfold tyL; rw [← ht4]; exact if_pos h67
            rw [e]
            exact stk_push hs
    · refine r_aload_n (pc := 28) dX8_typeOf_28 rfl rfl ?_
      refine mg_50 (pc := 29) hP rfl dX8_typeOf_29 ?_
      refine r_iload (pc := 32) dX8_typeOf_32 rfl ?_
      refine r_iconst (pc := 34) (v := 1) dX8_typeOf_34 (by decide) ?_
      refine msn_21 (pc := 35) (st.length) hP ⟨rfl, by simp at hn; omega⟩ dX8_typeOf_35 ?_
      refine r_iincK (pc := 36) (k9 := 1) dX8_typeOf_36 (by decide) rfl (Nat.le_of_ble_eq_true rfl) rfl ?_
      refine r_goto (pc := 39) (tgt := 167) dX8_typeOf_39 (by decide) ?_
      refine r_iincK (pc := 167) (k9 := 1) dX8_typeOf_167 (by decide) rfl (Nat.le_of_ble_eq_true rfl) rfl ?_
      refine r_goto (pc := 170) (tgt := 6) dX8_typeOf_170 (by decide) ?_
      have hc9 : ∀ j x, cs[j]? = some x → ar0 17 (a0 + (i + 1) + j) = x := fun j x hx => by
        rw [show a0 + (i + 1) + j = a0 + i + (j + 1) by omega]; exact hpl (j + 1) x (by simpa using hx)
      refine AW_drop 6 rfl ?_
      rw [nI_1]
      rw [nI_1]
      have hlt : c < 1000 := Int32.not_le.mp h25
      refine ih (i + 1) (1 :: st) sc _ (ag_a hag 21 _ (by decide)) hc9 (by simp at hn ⊢; omega) (fun x hx => hok x (List.mem_cons_of_mem _ hx)) ?_ ?_ (by simp; omega)
      · rw [← hrp, tyR_num hlt]
      · rw [va_up_self]; exact stk_push hs
set_option maxRecDepth 100000 in
set_option maxHeartbeats 4000000 in
theorem am_typeOf17 {G : aw_G} {P T : List va_E} {sc : Nat → Int32} {ar : Nat → Nat → Int32} (hP : P.length = 12) {row : List Int32} {t : Int32} (a0 : Nat) (hb : a0 + row.length ≤ 40) (hn40 : row.length ≤ 40) (hpl : ∀ j x, row[j]? = some x → ar 17 (a0 + j) = x) (hok : okL row) (hrp : tyR (ar 4) row [] = some [t]) : AM G fX8_typeOf [.ref 12, .ref 24, .int (nI a0), .int (nI row.length)] (mw P sc ar T) (qm P T (.inl (some (.int t))) (fun sc2 ar2 => ag [] [21] sc ar sc2 ar2)) := by
  refine AM_of (by decide) rfl rfl (Nat.le_of_ble_eq_true rfl) ?_
  show AW G fX8_typeOf 0 0 (mw P sc ar T) 0 [some (.ref 12), some (.ref 24), some (.int (nI a0)), some (.int (nI row.length)), none, none, none] [] _
  refine r_iconst (pc := 0) (v := 0) dX8_typeOf_0 (by decide) ?_
  refine r_istore (pc := 1) dX8_typeOf_1 (Nat.le_of_ble_eq_true rfl) rfl ?_
  refine r_iload_n (pc := 3) dX8_typeOf_3 rfl rfl ?_
  refine r_istore (pc := 4) dX8_typeOf_4 (Nat.le_of_ble_eq_true rfl) rfl ?_
  exact to_loop17 hP t a0 row.length hb hn40 row 0 [] sc ar ag_rf (fun j x hx => hpl j x hx) (Nat.zero_add _) hok hrp trivial (Nat.le_refl _)

set_option maxRecDepth 100000 in
set_option maxHeartbeats 4000000 in
theorem to_loop2 {G : aw_G} {P T : List va_E} {sc0 : Nat → Int32} {ar0 : Nat → Nat → Int32} (hP : P.length = 12) (t : Int32) (a0 n : Nat) (hb : a0 + n ≤ 4400) (hn40 : n ≤ 40) : ∀ (cs : List Int32) (i : Nat) (st : List Int32) (sc : Nat → Int32) (ar : Nat → Nat → Int32), ag [] [21] sc0 ar0 sc ar → (∀ j x, cs[j]? = some x → ar0 2 (a0 + i + j) = x) → i + cs.length = n → okL cs → tyR (ar0 4) cs st = some [t] → stk (ar 21) st → st.length ≤ i → AW G fX8_typeOf 0 0 (mw P sc ar T) 6 [some (.ref 12), some (.ref 14), some (.int (nI a0)), some (.int (nI n)), some (.int (nI st.length)), some (.int (nI (a0 + i))), none] [] (qm P T (.inl (some (.int t))) (fun sc2 ar2 => ag [] [21] sc0 ar0 sc2 ar2)) := by
  intro cs
  induction cs with
  | nil =>
    intro i st sc ar hag hpl hn hok hrp hs hsl
    refine r_iload (pc := 6) dX8_typeOf_6 rfl ?_
    refine r_iload_n (pc := 8) dX8_typeOf_8 rfl rfl ?_
    refine r_iload_n (pc := 9) dX8_typeOf_9 rfl rfl ?_
    refine r_iadd (pc := 10) dX8_typeOf_10 ?_
    refine r_icmp_ge (pc := 11) (tgt := 173) dX8_typeOf_11 (by decide) (fun h11 => ?_) (fun h => absurd (by rw [nI_add, show a0 + i = a0 + n by simp at hn; omega]; exact Int32.le_refl _) h)
    refine r_aload_n (pc := 173) dX8_typeOf_173 rfl rfl ?_
    refine mg_50 (pc := 174) hP rfl dX8_typeOf_174 ?_
    refine r_iconst (pc := 177) (v := 0) dX8_typeOf_177 (by decide) ?_
    refine mln_21 (pc := 178) (0) hP ⟨rfl, by decide⟩ dX8_typeOf_178 ?_
    refine r_iret (pc := 179) rfl rfl dX8_typeOf_179 ?_
    have h9 : some st = some [t] := hrp
    cases h9
    exact ⟨by rw [show ar 21 0 = t from hs.1], sc, ar, rfl, hag⟩
  | cons c cs ih =>
    intro i st sc ar hag hpl hn hok hrp hs hsl
    refine r_iload (pc := 6) dX8_typeOf_6 rfl ?_
    refine r_iload_n (pc := 8) dX8_typeOf_8 rfl rfl ?_
    refine r_iload_n (pc := 9) dX8_typeOf_9 rfl rfl ?_
    refine r_iadd (pc := 10) dX8_typeOf_10 ?_
    refine r_icmp_ge (pc := 11) (tgt := 173) dX8_typeOf_11 (by decide) (fun h => absurd h (by rw [nI_add]; exact nI_ge9 (by simp at hn; omega) (by simp at hn; omega))) (fun h11 => ?_)
    refine r_aload_n (pc := 14) dX8_typeOf_14 rfl rfl ?_
    refine r_iload (pc := 15) dX8_typeOf_15 rfl ?_
    refine mln_2 (pc := 17) (a0 + i) hP ⟨rfl, by simp at hn; omega⟩ dX8_typeOf_17 ?_
    rw [show ar 2 (a0 + i) = c from by rw [hag.2 2 (by decide)]; exact hpl 0 c rfl]
    refine r_istore (pc := 18) dX8_typeOf_18 (Nat.le_of_ble_eq_true rfl) rfl ?_
    refine r_iload (pc := 20) dX8_typeOf_20 rfl ?_
    refine r_sipush (pc := 22) (v := 1000) dX8_typeOf_22 (by decide) ?_
    refine r_icmp_ge (pc := 25) (tgt := 42) dX8_typeOf_25 (by decide) (fun h25 => ?_) (fun h25 => ?_)
    · refine r_iload (pc := 42) dX8_typeOf_42 rfl ?_
      refine r_sipush (pc := 44) (v := 2000) dX8_typeOf_44 (by decide) ?_
      refine r_icmp_ge (pc := 47) (tgt := 92) dX8_typeOf_47 (by decide) (fun h47 => ?_) (fun h47 => ?_)
      · refine r_iload (pc := 92) dX8_typeOf_92 rfl ?_
        refine r_sipush (pc := 94) (v := 2033) dX8_typeOf_94 (by decide) ?_
        refine r_icmp_ne (pc := 97) (tgt := 130) dX8_typeOf_97 (by decide) (fun h97 => ?_) (fun h97 => ?_)
        · have hge : ¬ c < 1000 := Int32.not_lt.mpr h25
          have hge2 : ¬ c < 2000 := Int32.not_lt.mpr h47
          have hne : ¬ c = 2033 := h97
          obtain ⟨b, a, s, rfl⟩ := rp_bin hge hge2 hne hrp
          rw [show nI (b :: a :: s).length = nI (s.length + 1 + 1) from rfl]
          refine r_iincK (pc := 130) (k9 := -1) dX8_typeOf_130 (by decide) rfl (Nat.le_of_ble_eq_true rfl) rfl ?_
          rw [m1k]
          refine r_aload_n (pc := 133) dX8_typeOf_133 rfl rfl ?_
          refine mg_50 (pc := 134) hP rfl dX8_typeOf_134 ?_
          refine r_iload (pc := 137) dX8_typeOf_137 rfl ?_
          refine r_iconst (pc := 139) (v := 1) dX8_typeOf_139 (by decide) ?_
          refine r_isub (pc := 140) dX8_typeOf_140 ?_
          refine r_iload (pc := 141) dX8_typeOf_141 rfl ?_
          refine r_sipush (pc := 143) (v := 2000) dX8_typeOf_143 (by decide) ?_
          refine r_isub (pc := 146) dX8_typeOf_146 ?_
          refine r_aload_n (pc := 147) dX8_typeOf_147 rfl rfl ?_
          refine mg_50 (pc := 148) hP rfl dX8_typeOf_148 ?_
          refine r_iload (pc := 151) dX8_typeOf_151 rfl ?_
          refine r_iconst (pc := 153) (v := 1) dX8_typeOf_153 (by decide) ?_
          refine r_isub (pc := 154) dX8_typeOf_154 ?_
          refine mln_21 (pc := 155) (s.length) hP ⟨s1k _, by simp at hn hsl; omega⟩ dX8_typeOf_155 ?_
          refine r_aload_n (pc := 156) dX8_typeOf_156 rfl rfl ?_
          refine mg_50 (pc := 157) hP rfl dX8_typeOf_157 ?_
          refine r_iload (pc := 160) dX8_typeOf_160 rfl ?_
          refine mln_21 (pc := 162) (s.length + 1) hP ⟨rfl, by simp at hn hsl; omega⟩ dX8_typeOf_162 ?_
          refine s_X8_119 (pc := 163) (kc' := 0) (ks' := 0) rfl rfl (am_typeFor _ _ _)  (Nat.le_of_ble_eq_true rfl) (Nat.le_of_ble_eq_true rfl) (Nat.le_of_ble_eq_true rfl) (Nat.le_of_ble_eq_true rfl) (by exact (Nat.le_of_ble_eq_true rfl)) rfl (List.forall_mem_cons.mpr ⟨rfl, (List.forall_mem_cons.mpr ⟨rfl, (List.forall_mem_cons.mpr ⟨rfl, fun _ h => nomatch h⟩)⟩)⟩) rfl dX8_typeOf_163 aw_kt (aw_kq ?_)
          refine msn_21 (pc := 166) (s.length) hP ⟨s1k _, by simp at hn hsl; omega⟩ dX8_typeOf_166 ?_
          refine r_iincK (pc := 167) (k9 := 1) dX8_typeOf_167 (by decide) rfl (Nat.le_of_ble_eq_true rfl) rfl ?_
          refine r_goto (pc := 170) (tgt := 6) dX8_typeOf_170 (by decide) ?_
          have hc9 : ∀ j x, cs[j]? = some x → ar0 2 (a0 + (i + 1) + j) = x := fun j x hx => by
            rw [show a0 + (i + 1) + j = a0 + i + (j + 1) by omega]; exact hpl (j + 1) x (by simpa using hx)
          refine AW_drop 6 rfl ?_
          rw [nI_1]
          refine ih (i + 1) (tyF (c - 2000) a b :: s) sc _ (ag_a hag 21 _ (by decide)) hc9 (by simp at hn ⊢; omega) (fun x hx => hok x (List.mem_cons_of_mem _ hx)) ?_ ?_ (by simp at hsl ⊢; omega)
          · rw [← hrp, tyR_bin hge hge2 hne]
          · rw [va_up_self, show ar 21 (s.length + 1) = b from hs.1, show ar 21 s.length = a from hs.2.1]
            exact stk_2 hs
        · have hc : c = 2033 := h97
          subst hc
          obtain ⟨a, s, rfl⟩ := rp_bng hrp
          refine r_aload_n (pc := 100) dX8_typeOf_100 rfl rfl ?_
          refine mg_50 (pc := 101) hP rfl dX8_typeOf_101 ?_
          refine r_iload (pc := 104) dX8_typeOf_104 rfl ?_
          refine r_iconst (pc := 106) (v := 1) dX8_typeOf_106 (by decide) ?_
          refine r_isub (pc := 107) dX8_typeOf_107 ?_
          refine r_aload_n (pc := 108) dX8_typeOf_108 rfl rfl ?_
          refine mg_50 (pc := 109) hP rfl dX8_typeOf_109 ?_
          refine r_iload (pc := 112) dX8_typeOf_112 rfl ?_
          refine r_iconst (pc := 114) (v := 1) dX8_typeOf_114 (by decide) ?_
          refine r_isub (pc := 115) dX8_typeOf_115 ?_
          refine mln_21 (pc := 116) (s.length) hP ⟨s1k _, by simp at hn hsl; omega⟩ dX8_typeOf_116 ?_
          refine r_iconst (pc := 117) (v := 2) dX8_typeOf_117 (by decide) ?_
          refine r_icmp_ne (pc := 118) (tgt := 125) dX8_typeOf_118 (by decide) (fun h118 => ?_) (fun h118 => ?_)
          · refine r_iconst (pc := 125) (v := -1) dX8_typeOf_125 (by decide) ?_
            refine msn_21 (pc := 126) (s.length) hP ⟨s1k _, by simp at hn hsl; omega⟩ dX8_typeOf_126 ?_
            refine r_goto (pc := 127) (tgt := 167) dX8_typeOf_127 (by decide) ?_
            refine r_iincK (pc := 167) (k9 := 1) dX8_typeOf_167 (by decide) rfl (Nat.le_of_ble_eq_true rfl) rfl ?_
            refine r_goto (pc := 170) (tgt := 6) dX8_typeOf_170 (by decide) ?_
            have hc9 : ∀ j x, cs[j]? = some x → ar0 2 (a0 + (i + 1) + j) = x := fun j x hx => by
              rw [show a0 + (i + 1) + j = a0 + i + (j + 1) by omega]; exact hpl (j + 1) x (by simpa using hx)
            refine AW_drop 6 rfl ?_
            rw [nI_1]
            refine ih (i + 1) (tyB a :: s) sc _ (ag_a hag 21 _ (by decide)) hc9 (by simp at hn ⊢; omega) (fun x hx => hok x (List.mem_cons_of_mem _ hx)) ?_ ?_ (by simp at hsl ⊢; omega)
            · rw [← hrp, tyR_bng]
            · rw [va_up_self]
              have e : tyB a = -1 := by unfold tyB; rw [← hs.1]; exact if_neg h118
              rw [e]
              exact stk_top hs
          · refine r_iconst (pc := 121) (v := 2) dX8_typeOf_121 (by decide) ?_
            refine r_goto (pc := 122) (tgt := 126) dX8_typeOf_122 (by decide) ?_
            refine msn_21 (pc := 126) (s.length) hP ⟨s1k _, by simp at hn hsl; omega⟩ dX8_typeOf_126 ?_
            refine r_goto (pc := 127) (tgt := 167) dX8_typeOf_127 (by decide) ?_
            refine r_iincK (pc := 167) (k9 := 1) dX8_typeOf_167 (by decide) rfl (Nat.le_of_ble_eq_true rfl) rfl ?_
            refine r_goto (pc := 170) (tgt := 6) dX8_typeOf_170 (by decide) ?_
            have hc9 : ∀ j x, cs[j]? = some x → ar0 2 (a0 + (i + 1) + j) = x := fun j x hx => by
              rw [show a0 + (i + 1) + j = a0 + i + (j + 1) by omega]; exact hpl (j + 1) x (by simpa using hx)
            refine AW_drop 6 rfl ?_
            rw [nI_1]
            refine ih (i + 1) (tyB a :: s) sc _ (ag_a hag 21 _ (by decide)) hc9 (by simp at hn ⊢; omega) (fun x hx => hok x (List.mem_cons_of_mem _ hx)) ?_ ?_ (by simp at hsl ⊢; omega)
            · rw [← hrp, tyR_bng]
            · rw [va_up_self]
              have e : tyB a = 2 := by unfold tyB; rw [← hs.1]; exact if_pos h118
              rw [e]
              exact stk_top hs
      · have hge : ¬ c < 1000 := Int32.not_lt.mpr h25
        have hlt2 : c < 2000 := Int32.not_le.mp h47
        obtain ⟨j, hj, hj2, hj3⟩ := okL_ix hok List.mem_cons_self hge hlt2
        have ht4 : ar 4 j = ar0 4 j := by rw [hag.2 4 (by decide)]
        refine r_aload_n (pc := 50) dX8_typeOf_50 rfl rfl ?_
        refine mg_50 (pc := 51) hP rfl dX8_typeOf_51 ?_
        refine r_iload (pc := 54) dX8_typeOf_54 rfl ?_
        refine r_aload_n (pc := 56) dX8_typeOf_56 rfl rfl ?_
        refine mg_19 (pc := 57) hP rfl dX8_typeOf_57 ?_
        refine r_iload (pc := 60) dX8_typeOf_60 rfl ?_
        refine r_sipush (pc := 62) (v := 1000) dX8_typeOf_62 (by decide) ?_
        refine r_isub (pc := 65) dX8_typeOf_65 ?_
        refine mln_4 (pc := 66) (j) hP ⟨hj2, by omega⟩ dX8_typeOf_66 ?_
        refine r_if_ne (pc := 67) (tgt := 74) dX8_typeOf_67 (by decide) (fun h67 => ?_) (fun h67 => ?_)
        · refine r_aload_n (pc := 74) dX8_typeOf_74 rfl rfl ?_
          refine mg_19 (pc := 75) hP rfl dX8_typeOf_75 ?_
          refine r_iload (pc := 78) dX8_typeOf_78 rfl ?_
          refine r_sipush (pc := 80) (v := 1000) dX8_typeOf_80 (by decide) ?_
          refine r_isub (pc := 83) dX8_typeOf_83 ?_
          refine mln_4 (pc := 84) (j) hP ⟨hj2, by omega⟩ dX8_typeOf_84 ?_
          refine msn_21 (pc := 85) (st.length) hP ⟨rfl, by simp at hn; omega⟩ dX8_typeOf_85 ?_
          refine r_iincK (pc := 86) (k9 := 1) dX8_typeOf_86 (by decide) rfl (Nat.le_of_ble_eq_true rfl) rfl ?_
          refine r_goto (pc := 89) (tgt := 167) dX8_typeOf_89 (by decide) ?_
          refine r_iincK (pc := 167) (k9 := 1) dX8_typeOf_167 (by decide) rfl (Nat.le_of_ble_eq_true rfl) rfl ?_
          refine r_goto (pc := 170) (tgt := 6) dX8_typeOf_170 (by decide) ?_
          have hc9 : ∀ j x, cs[j]? = some x → ar0 2 (a0 + (i + 1) + j) = x := fun j x hx => by
            rw [show a0 + (i + 1) + j = a0 + i + (j + 1) by omega]; exact hpl (j + 1) x (by simpa using hx)
          refine AW_drop 6 rfl ?_
          rw [nI_1]
          rw [nI_1]
          refine ih (i + 1) (tyL (ar0 4) j :: st) sc _ (ag_a hag 21 _ (by decide)) hc9 (by simp at hn ⊢; omega) (fun x hx => hok x (List.mem_cons_of_mem _ hx)) ?_ ?_ (by simp; omega)
          · rw [← hrp, tyR_let hge hlt2, hj3]
          · rw [va_up_self]
            have e : tyL (ar0 4) j = ar 4 j := by unfold tyL; rw [← ht4]; exact if_neg h67
            rw [e]
            exact stk_push hs
        · refine r_iconst (pc := 70) (v := -1) dX8_typeOf_70 (by decide) ?_
          refine r_goto (pc := 71) (tgt := 85) dX8_typeOf_71 (by decide) ?_
          refine msn_21 (pc := 85) (st.length) hP ⟨rfl, by simp at hn; omega⟩ dX8_typeOf_85 ?_
          refine r_iincK (pc := 86) (k9 := 1) dX8_typeOf_86 (by decide) rfl (Nat.le_of_ble_eq_true rfl) rfl ?_
          refine r_goto (pc := 89) (tgt := 167) dX8_typeOf_89 (by decide) ?_
          refine r_iincK (pc := 167) (k9 := 1) dX8_typeOf_167 (by decide) rfl (Nat.le_of_ble_eq_true rfl) rfl ?_
          refine r_goto (pc := 170) (tgt := 6) dX8_typeOf_170 (by decide) ?_
          have hc9 : ∀ j x, cs[j]? = some x → ar0 2 (a0 + (i + 1) + j) = x := fun j x hx => by
            rw [show a0 + (i + 1) + j = a0 + i + (j + 1) by omega]; exact hpl (j + 1) x (by simpa using hx)
          refine AW_drop 6 rfl ?_
          rw [nI_1]
          rw [nI_1]
          refine ih (i + 1) (tyL (ar0 4) j :: st) sc _ (ag_a hag 21 _ (by decide)) hc9 (by simp at hn ⊢; omega) (fun x hx => hok x (List.mem_cons_of_mem _ hx)) ?_ ?_ (by simp; omega)
          · rw [← hrp, tyR_let hge hlt2, hj3]
          · rw [va_up_self]
            have e : tyL (ar0 4) j = -1 := by unfold tyL; rw [← ht4]; exact if_pos h67
            rw [e]
            exact stk_push hs
    · refine r_aload_n (pc := 28) dX8_typeOf_28 rfl rfl ?_
      refine mg_50 (pc := 29) hP rfl dX8_typeOf_29 ?_
      refine r_iload (pc := 32) dX8_typeOf_32 rfl ?_
      refine r_iconst (pc := 34) (v := 1) dX8_typeOf_34 (by decide) ?_
      refine msn_21 (pc := 35) (st.length) hP ⟨rfl, by simp at hn; omega⟩ dX8_typeOf_35 ?_
      refine r_iincK (pc := 36) (k9 := 1) dX8_typeOf_36 (by decide) rfl (Nat.le_of_ble_eq_true rfl) rfl ?_
      refine r_goto (pc := 39) (tgt := 167) dX8_typeOf_39 (by decide) ?_
      refine r_iincK (pc := 167) (k9 := 1) dX8_typeOf_167 (by decide) rfl (Nat.le_of_ble_eq_true rfl) rfl ?_
      refine r_goto (pc := 170) (tgt := 6) dX8_typeOf_170 (by decide) ?_
      have hc9 : ∀ j x, cs[j]? = some x → ar0 2 (a0 + (i + 1) + j) = x := fun j x hx => by
        rw [show a0 + (i + 1) + j = a0 + i + (j + 1) by omega]; exact hpl (j + 1) x (by simpa using hx)
      refine AW_drop 6 rfl ?_
      rw [nI_1]
      rw [nI_1]
      have hlt : c < 1000 := Int32.not_le.mp h25
      refine ih (i + 1) (1 :: st) sc _ (ag_a hag 21 _ (by decide)) hc9 (by simp at hn ⊢; omega) (fun x hx => hok x (List.mem_cons_of_mem _ hx)) ?_ ?_ (by simp; omega)
      · rw [← hrp, tyR_num hlt]
      · rw [va_up_self]; exact stk_push hs
set_option maxRecDepth 100000 in
set_option maxHeartbeats 4000000 in
theorem am_typeOf2 {G : aw_G} {P T : List va_E} {sc : Nat → Int32} {ar : Nat → Nat → Int32} (hP : P.length = 12) {row : List Int32} {t : Int32} (a0 : Nat) (hb : a0 + row.length ≤ 4400) (hn40 : row.length ≤ 40) (hpl : ∀ j x, row[j]? = some x → ar 2 (a0 + j) = x) (hok : okL row) (hrp : tyR (ar 4) row [] = some [t]) : AM G fX8_typeOf [.ref 12, .ref 14, .int (nI a0), .int (nI row.length)] (mw P sc ar T) (qm P T (.inl (some (.int t))) (fun sc2 ar2 => ag [] [21] sc ar sc2 ar2)) := by
  refine AM_of (by decide) rfl rfl (Nat.le_of_ble_eq_true rfl) ?_
  show AW G fX8_typeOf 0 0 (mw P sc ar T) 0 [some (.ref 12), some (.ref 14), some (.int (nI a0)), some (.int (nI row.length)), none, none, none] [] _
  refine r_iconst (pc := 0) (v := 0) dX8_typeOf_0 (by decide) ?_
  refine r_istore (pc := 1) dX8_typeOf_1 (Nat.le_of_ble_eq_true rfl) rfl ?_
  refine r_iload_n (pc := 3) dX8_typeOf_3 rfl rfl ?_
  refine r_istore (pc := 4) dX8_typeOf_4 (Nat.le_of_ble_eq_true rfl) rfl ?_
  exact to_loop2 hP t a0 row.length hb hn40 row 0 [] sc ar ag_rf (fun j x hx => hpl j x hx) (Nat.zero_add _) hok hrp trivial (Nat.le_refl _)

theorem Int32.add_sub_assoc9 (a b c : Int32) : a + b - c = a + (b - c) := by
  rw [Int32.sub_eq_add_neg, Int32.sub_eq_add_neg, Int32.add_assoc]
set_option maxRecDepth 100000 in
set_option maxHeartbeats 4000000 in
theorem vo_loop {G : aw_G} {P T : List va_E} {sc0 : Nat → Int32} {ar0 : Nat → Nat → Int32} (hP : P.length = 12) (t : Int32) (an fn it n : Nat) (han : an < 20) (hit : it < 110) (hl0 : ar0 3 it = nI n) (hn40 : n ≤ 40) : ∀ (cs : List Int32) (i : Nat) (st : List Int32) (sc : Nat → Int32) (ar : Nat → Nat → Int32), ag [] [21] sc0 ar0 sc ar → (∀ j x, cs[j]? = some x → ar0 2 (40 * it + i + j) = x) → i + cs.length = n → okL cs → vaR (fun j => ar0 9 (6 * an + j)) cs st = some [t] → stk (ar 21) st → st.length ≤ i → AW G fX8_valueOf 0 0 (mw P sc ar T) 23 [some (.ref 12), some (.int (nI an)), some (.int (nI fn)), some (.int (nI it)), some (.int (nI st.length)), some (.int (nI (40 * it + i))), none] [] (qm P T (.inl (some (.int t))) (fun sc2 ar2 => ag [] [21] sc0 ar0 sc2 ar2)) := by
  intro cs
  induction cs with
  | nil =>
    intro i st sc ar hag hpl hn hok hrp hs hsl
    have hlen : ar 3 it = nI n := by rw [hag.2 3 (by decide)]; exact hl0
    refine r_iload (pc := 23) dX8_valueOf_23 rfl ?_
    refine r_bipush (pc := 25) (v := 40) dX8_valueOf_25 (by decide) ?_
    refine r_iload_n (pc := 27) dX8_valueOf_27 rfl rfl ?_
    refine r_imul (pc := 28) dX8_valueOf_28 ?_
    refine r_aload_n (pc := 29) dX8_valueOf_29 rfl rfl ?_
    refine mg_16 (pc := 30) hP rfl dX8_valueOf_30 ?_
    refine r_iload_n (pc := 33) dX8_valueOf_33 rfl rfl ?_
    refine mln_3 (pc := 34) (it) hP ⟨rfl, by omega⟩ dX8_valueOf_34 ?_
    refine r_iadd (pc := 35) dX8_valueOf_35 ?_
    refine r_icmp_ge (pc := 36) (tgt := 182) dX8_valueOf_36 (by decide) (fun h36 => ?_) (fun h => absurd (by rw [n40, hlen, nI_add, show 40 * it + i = 40 * it + n by simp at hn; omega]; exact Int32.le_refl _) h)
    refine r_aload_n (pc := 182) dX8_valueOf_182 rfl rfl ?_
    refine mg_50 (pc := 183) hP rfl dX8_valueOf_183 ?_
    refine r_iconst (pc := 186) (v := 0) dX8_valueOf_186 (by decide) ?_
    refine mln_21 (pc := 187) (0) hP ⟨rfl, by decide⟩ dX8_valueOf_187 ?_
    refine r_iret (pc := 188) rfl rfl dX8_valueOf_188 ?_
    have h9 : some st = some [t] := hrp
    cases h9
    exact ⟨by rw [show ar 21 0 = t from hs.1], sc, ar, rfl, hag⟩
  | cons c cs ih =>
    intro i st sc ar hag hpl hn hok hrp hs hsl
    have hlen : ar 3 it = nI n := by rw [hag.2 3 (by decide)]; exact hl0
    refine r_iload (pc := 23) dX8_valueOf_23 rfl ?_
    refine r_bipush (pc := 25) (v := 40) dX8_valueOf_25 (by decide) ?_
    refine r_iload_n (pc := 27) dX8_valueOf_27 rfl rfl ?_
    refine r_imul (pc := 28) dX8_valueOf_28 ?_
    refine r_aload_n (pc := 29) dX8_valueOf_29 rfl rfl ?_
    refine mg_16 (pc := 30) hP rfl dX8_valueOf_30 ?_
    refine r_iload_n (pc := 33) dX8_valueOf_33 rfl rfl ?_
    refine mln_3 (pc := 34) (it) hP ⟨rfl, by omega⟩ dX8_valueOf_34 ?_
    refine r_iadd (pc := 35) dX8_valueOf_35 ?_
    refine r_icmp_ge (pc := 36) (tgt := 182) dX8_valueOf_36 (by decide) (fun h => absurd h (by rw [n40, hlen, nI_add]; exact nI_ge9 (by simp at hn; omega) (by simp at hn; omega))) (fun h36 => ?_)
    refine r_aload_n (pc := 39) dX8_valueOf_39 rfl rfl ?_
    refine mg_13 (pc := 40) hP rfl dX8_valueOf_40 ?_
    refine r_iload (pc := 43) dX8_valueOf_43 rfl ?_
    refine mln_2 (pc := 45) (40 * it + i) hP ⟨rfl, by simp at hn; omega⟩ dX8_valueOf_45 ?_
    rw [show ar 2 (40 * it + i) = c from by rw [hag.2 2 (by decide)]; exact hpl 0 c rfl]
    refine r_istore (pc := 46) dX8_valueOf_46 (Nat.le_of_ble_eq_true rfl) rfl ?_
    refine r_iload (pc := 48) dX8_valueOf_48 rfl ?_
    refine r_sipush (pc := 50) (v := 1000) dX8_valueOf_50 (by decide) ?_
    refine r_icmp_ge (pc := 53) (tgt := 71) dX8_valueOf_53 (by decide) (fun h53 => ?_) (fun h53 => ?_)
    · refine r_iload (pc := 71) dX8_valueOf_71 rfl ?_
      refine r_sipush (pc := 73) (v := 2000) dX8_valueOf_73 (by decide) ?_
      refine r_icmp_ge (pc := 76) (tgt := 108) dX8_valueOf_76 (by decide) (fun h76 => ?_) (fun h76 => ?_)
      · refine r_iload (pc := 108) dX8_valueOf_108 rfl ?_
        refine r_sipush (pc := 110) (v := 2033) dX8_valueOf_110 (by decide) ?_
        refine r_icmp_ne (pc := 113) (tgt := 139) dX8_valueOf_113 (by decide) (fun h113 => ?_) (fun h113 => ?_)
        · have hge : ¬ c < 1000 := Int32.not_lt.mpr h53
          have hge2 : ¬ c < 2000 := Int32.not_lt.mpr h76
          have hne : ¬ c = 2033 := h113
          obtain ⟨b, a, s, rfl⟩ := rp_bin hge hge2 hne hrp
          rw [show nI (b :: a :: s).length = nI (s.length + 1 + 1) from rfl]
          refine r_iincK (pc := 139) (k9 := -1) dX8_valueOf_139 (by decide) rfl (Nat.le_of_ble_eq_true rfl) rfl ?_
          rw [m1k]
          refine r_aload_n (pc := 142) dX8_valueOf_142 rfl rfl ?_
          refine mg_50 (pc := 143) hP rfl dX8_valueOf_143 ?_
          refine r_iload (pc := 146) dX8_valueOf_146 rfl ?_
          refine r_iconst (pc := 148) (v := 1) dX8_valueOf_148 (by decide) ?_
          refine r_isub (pc := 149) dX8_valueOf_149 ?_
          refine r_iload (pc := 150) dX8_valueOf_150 rfl ?_
          refine r_sipush (pc := 152) (v := 2000) dX8_valueOf_152 (by decide) ?_
          refine r_isub (pc := 155) dX8_valueOf_155 ?_
          refine r_aload_n (pc := 156) dX8_valueOf_156 rfl rfl ?_
          refine mg_50 (pc := 157) hP rfl dX8_valueOf_157 ?_
          refine r_iload (pc := 160) dX8_valueOf_160 rfl ?_
          refine r_iconst (pc := 162) (v := 1) dX8_valueOf_162 (by decide) ?_
          refine r_isub (pc := 163) dX8_valueOf_163 ?_
          refine mln_21 (pc := 164) (s.length) hP ⟨s1k _, by simp at hn hsl; omega⟩ dX8_valueOf_164 ?_
          refine r_aload_n (pc := 165) dX8_valueOf_165 rfl rfl ?_
          refine mg_50 (pc := 166) hP rfl dX8_valueOf_166 ?_
          refine r_iload (pc := 169) dX8_valueOf_169 rfl ?_
          refine mln_21 (pc := 171) (s.length + 1) hP ⟨rfl, by simp at hn hsl; omega⟩ dX8_valueOf_171 ?_
          refine s_X8_123 (pc := 172) (kc' := 0) (ks' := 0) rfl rfl (am_valueFor _ _ _)  (Nat.le_of_ble_eq_true rfl) (Nat.le_of_ble_eq_true rfl) (Nat.le_of_ble_eq_true rfl) (Nat.le_of_ble_eq_true rfl) (by exact (Nat.le_of_ble_eq_true rfl)) rfl (List.forall_mem_cons.mpr ⟨rfl, (List.forall_mem_cons.mpr ⟨rfl, (List.forall_mem_cons.mpr ⟨rfl, fun _ h => nomatch h⟩)⟩)⟩) rfl dX8_valueOf_172 aw_kt (aw_kq ?_)
          refine msn_21 (pc := 175) (s.length) hP ⟨s1k _, by simp at hn hsl; omega⟩ dX8_valueOf_175 ?_
          refine r_iincK (pc := 176) (k9 := 1) dX8_valueOf_176 (by decide) rfl (Nat.le_of_ble_eq_true rfl) rfl ?_
          refine r_goto (pc := 179) (tgt := 23) dX8_valueOf_179 (by decide) ?_
          have hlen : ar 3 it = nI n := by rw [hag.2 3 (by decide)]; exact hl0
          have hc9 : ∀ j x, cs[j]? = some x → ar0 2 (40 * it + (i + 1) + j) = x := fun j x hx => by
            rw [show 40 * it + (i + 1) + j = 40 * it + i + (j + 1) by omega]; exact hpl (j + 1) x (by simpa using hx)
          refine AW_drop 6 rfl ?_
          rw [nI_1]
          refine ih (i + 1) (vaF (c - 2000) a b :: s) sc _ (ag_a hag 21 _ (by decide)) hc9 (by simp at hn ⊢; omega) (fun x hx => hok x (List.mem_cons_of_mem _ hx)) ?_ ?_ (by simp at hsl ⊢; omega)
          · rw [← hrp, vaR_bin hge hge2 hne]
          · rw [va_up_self, show ar 21 (s.length + 1) = b from hs.1, show ar 21 s.length = a from hs.2.1]
            exact stk_2 hs
        · have hc : c = 2033 := h113
          subst hc
          obtain ⟨a, s, rfl⟩ := rp_bng hrp
          refine r_aload_n (pc := 116) dX8_valueOf_116 rfl rfl ?_
          refine mg_50 (pc := 117) hP rfl dX8_valueOf_117 ?_
          refine r_iload (pc := 120) dX8_valueOf_120 rfl ?_
          refine r_iconst (pc := 122) (v := 1) dX8_valueOf_122 (by decide) ?_
          refine r_isub (pc := 123) dX8_valueOf_123 ?_
          refine r_iconst (pc := 124) (v := 1) dX8_valueOf_124 (by decide) ?_
          refine r_aload_n (pc := 125) dX8_valueOf_125 rfl rfl ?_
          refine mg_50 (pc := 126) hP rfl dX8_valueOf_126 ?_
          refine r_iload (pc := 129) dX8_valueOf_129 rfl ?_
          refine r_iconst (pc := 131) (v := 1) dX8_valueOf_131 (by decide) ?_
          refine r_isub (pc := 132) dX8_valueOf_132 ?_
          refine mln_21 (pc := 133) (s.length) hP ⟨s1k _, by simp at hn hsl; omega⟩ dX8_valueOf_133 ?_
          refine r_isub (pc := 134) dX8_valueOf_134 ?_
          refine msn_21 (pc := 135) (s.length) hP ⟨s1k _, by simp at hn hsl; omega⟩ dX8_valueOf_135 ?_
          refine r_goto (pc := 136) (tgt := 176) dX8_valueOf_136 (by decide) ?_
          refine r_iincK (pc := 176) (k9 := 1) dX8_valueOf_176 (by decide) rfl (Nat.le_of_ble_eq_true rfl) rfl ?_
          refine r_goto (pc := 179) (tgt := 23) dX8_valueOf_179 (by decide) ?_
          have hlen : ar 3 it = nI n := by rw [hag.2 3 (by decide)]; exact hl0
          have hc9 : ∀ j x, cs[j]? = some x → ar0 2 (40 * it + (i + 1) + j) = x := fun j x hx => by
            rw [show 40 * it + (i + 1) + j = 40 * it + i + (j + 1) by omega]; exact hpl (j + 1) x (by simpa using hx)
          refine AW_drop 6 rfl ?_
          rw [nI_1]
          refine ih (i + 1) ((1 - a) :: s) sc _ (ag_a hag 21 _ (by decide)) hc9 (by simp at hn ⊢; omega) (fun x hx => hok x (List.mem_cons_of_mem _ hx)) ?_ ?_ (by simp at hsl ⊢; omega)
          · rw [← hrp, vaR_bng]
          · rw [va_up_self, show ar 21 s.length = a from hs.1]
            exact stk_top hs
      · have hge : ¬ c < 1000 := Int32.not_lt.mpr h53
        have hlt2 : c < 2000 := Int32.not_le.mp h76
        obtain ⟨j, hj, hj2, hj3⟩ := okL_ix hok List.mem_cons_self hge hlt2
        have hix : 6 * nI an + c - 1000 = nI (6 * an + j) := by
          rw [n6, ← nI_add, ← hj2]
          exact Int32.add_sub_assoc9 _ _ _
        refine r_aload_n (pc := 79) dX8_valueOf_79 rfl rfl ?_
        refine mg_50 (pc := 80) hP rfl dX8_valueOf_80 ?_
        refine r_iload (pc := 83) dX8_valueOf_83 rfl ?_
        refine r_aload_n (pc := 85) dX8_valueOf_85 rfl rfl ?_
        refine mg_28 (pc := 86) hP rfl dX8_valueOf_86 ?_
        refine r_bipush (pc := 89) (v := 6) dX8_valueOf_89 (by decide) ?_
        refine r_iload_n (pc := 91) dX8_valueOf_91 rfl rfl ?_
        refine r_imul (pc := 92) dX8_valueOf_92 ?_
        refine r_iload (pc := 93) dX8_valueOf_93 rfl ?_
        refine r_iadd (pc := 95) dX8_valueOf_95 ?_
        refine r_sipush (pc := 96) (v := 1000) dX8_valueOf_96 (by decide) ?_
        refine r_isub (pc := 99) dX8_valueOf_99 ?_
        refine mln_9 (pc := 100) (6 * an + j) hP ⟨hix, by omega⟩ dX8_valueOf_100 ?_
        refine msn_21 (pc := 101) (st.length) hP ⟨rfl, by simp at hn; omega⟩ dX8_valueOf_101 ?_
        refine r_iincK (pc := 102) (k9 := 1) dX8_valueOf_102 (by decide) rfl (Nat.le_of_ble_eq_true rfl) rfl ?_
        refine r_goto (pc := 105) (tgt := 176) dX8_valueOf_105 (by decide) ?_
        refine r_iincK (pc := 176) (k9 := 1) dX8_valueOf_176 (by decide) rfl (Nat.le_of_ble_eq_true rfl) rfl ?_
        refine r_goto (pc := 179) (tgt := 23) dX8_valueOf_179 (by decide) ?_
        have hlen : ar 3 it = nI n := by rw [hag.2 3 (by decide)]; exact hl0
        have hc9 : ∀ j x, cs[j]? = some x → ar0 2 (40 * it + (i + 1) + j) = x := fun j x hx => by
          rw [show 40 * it + (i + 1) + j = 40 * it + i + (j + 1) by omega]; exact hpl (j + 1) x (by simpa using hx)
        refine AW_drop 6 rfl ?_
        rw [nI_1]
        rw [nI_1]
        refine ih (i + 1) (ar0 9 (6 * an + j) :: st) sc _ (ag_a hag 21 _ (by decide)) hc9 (by simp at hn ⊢; omega) (fun x hx => hok x (List.mem_cons_of_mem _ hx)) ?_ ?_ (by simp; omega)
        · rw [← hrp, vaR_let hge hlt2, hj3]
        · rw [va_up_self, show ar 9 (6 * an + j) = ar0 9 (6 * an + j) by rw [hag.2 9 (by decide)]]
          exact stk_push hs
    · refine r_aload_n (pc := 56) dX8_valueOf_56 rfl rfl ?_
      refine mg_50 (pc := 57) hP rfl dX8_valueOf_57 ?_
      refine r_iload (pc := 60) dX8_valueOf_60 rfl ?_
      refine r_iload (pc := 62) dX8_valueOf_62 rfl ?_
      refine msn_21 (pc := 64) (st.length) hP ⟨rfl, by simp at hn; omega⟩ dX8_valueOf_64 ?_
      refine r_iincK (pc := 65) (k9 := 1) dX8_valueOf_65 (by decide) rfl (Nat.le_of_ble_eq_true rfl) rfl ?_
      refine r_goto (pc := 68) (tgt := 176) dX8_valueOf_68 (by decide) ?_
      refine r_iincK (pc := 176) (k9 := 1) dX8_valueOf_176 (by decide) rfl (Nat.le_of_ble_eq_true rfl) rfl ?_
      refine r_goto (pc := 179) (tgt := 23) dX8_valueOf_179 (by decide) ?_
      have hlen : ar 3 it = nI n := by rw [hag.2 3 (by decide)]; exact hl0
      have hc9 : ∀ j x, cs[j]? = some x → ar0 2 (40 * it + (i + 1) + j) = x := fun j x hx => by
        rw [show 40 * it + (i + 1) + j = 40 * it + i + (j + 1) by omega]; exact hpl (j + 1) x (by simpa using hx)
      refine AW_drop 6 rfl ?_
      rw [nI_1]
      rw [nI_1]
      have hlt : c < 1000 := Int32.not_le.mp h53
      refine ih (i + 1) (c :: st) sc _ (ag_a hag 21 _ (by decide)) hc9 (by simp at hn ⊢; omega) (fun x hx => hok x (List.mem_cons_of_mem _ hx)) ?_ ?_ (by simp; omega)
      · rw [← hrp, vaR_num hlt]
      · rw [va_up_self]; exact stk_push hs
set_option maxRecDepth 100000 in
set_option maxHeartbeats 4000000 in
theorem am_valueOf {G : aw_G} {P T : List va_E} {sc : Nat → Int32} {ar : Nat → Nat → Int32} (hP : P.length = 12) {row : List Int32} {t : Int32} {an vn fn it : Nat} (han : an < 20) (hv : ar 8 an = nI vn) (hit : 10 * (vn + 1) + fn = it) (hc : crow ar it row) (hok : okL row) (hrp : vaR (fun j => ar 9 (6 * an + j)) row [] = some [t]) : AM G fX8_valueOf [.ref 12, .int (nI an), .int (nI fn)] (mw P sc ar T) (qm P T (.inl (some (.int t))) (fun sc2 ar2 => ag [] [21] sc ar sc2 ar2)) := by
  refine AM_of (by decide) rfl rfl (Nat.le_of_ble_eq_true rfl) ?_
  show AW G fX8_valueOf 0 0 (mw P sc ar T) 0 [some (.ref 12), some (.int (nI an)), some (.int (nI fn)), none, none, none, none] [] _
  refine r_bipush (pc := 0) (v := 10) dX8_valueOf_0 (by decide) ?_
  refine r_aload_n (pc := 2) dX8_valueOf_2 rfl rfl ?_
  refine mg_25 (pc := 3) hP rfl dX8_valueOf_3 ?_
  refine r_iload_n (pc := 6) dX8_valueOf_6 rfl rfl ?_
  refine mln_8 (pc := 7) (an) hP ⟨rfl, by omega⟩ dX8_valueOf_7 ?_
  refine r_iconst (pc := 8) (v := 1) dX8_valueOf_8 (by decide) ?_
  refine r_iadd (pc := 9) dX8_valueOf_9 ?_
  refine r_imul (pc := 10) dX8_valueOf_10 ?_
  refine r_iload_n (pc := 11) dX8_valueOf_11 rfl rfl ?_
  refine r_iadd (pc := 12) dX8_valueOf_12 ?_
  refine r_istore_n (pc := 13) dX8_valueOf_13 rfl (Nat.le_of_ble_eq_true rfl) rfl ?_
  refine r_iconst (pc := 14) (v := 0) dX8_valueOf_14 (by decide) ?_
  refine r_istore (pc := 15) dX8_valueOf_15 (Nat.le_of_ble_eq_true rfl) rfl ?_
  refine r_bipush (pc := 17) (v := 40) dX8_valueOf_17 (by decide) ?_
  refine r_iload_n (pc := 19) dX8_valueOf_19 rfl rfl ?_
  refine r_imul (pc := 20) dX8_valueOf_20 ?_
  refine r_istore (pc := 21) dX8_valueOf_21 (Nat.le_of_ble_eq_true rfl) rfl ?_
  rw [hv, nI_1, n10, nI_add, hit, n40]
  exact vo_loop hP t an fn it row.length han hc.1 hc.2.2.1 hc.2.1 row 0 [] sc ar ag_rf (fun j x hx => hc.2.2.2 j x hx) (Nat.zero_add _) hok hrp trivial (Nat.le_refl _)

set_option maxRecDepth 100000 in
set_option maxHeartbeats 4000000 in
theorem hl_loop {G : aw_G} {P T : List va_E} {sc : Nat → Int32} {ar : Nat → Nat → Int32} (hP : P.length = 12) (v : Bool) (fn it n : Nat) (hit : it < 110) (hl0 : ar 3 it = nI n) (hn40 : n ≤ 40) : ∀ (cs : List Int32) (i : Nat) (has : Bool), (∀ j x, cs[j]? = some x → ar 2 (40 * it + i + j) = x) → i + cs.length = n → (has || anyE (1000 + nI fn) cs) = v → AW G fX8_hasLetter 0 0 (mw P sc ar T) 8 [some (.ref 12), some (.int (nI it)), some (.int (nI fn)), some (.int (bi has)), some (.int (nI (40 * it + i)))] [] (qx (.inl (some (.int (bi v)))) (mw P sc ar T)) := by
  intro cs
  induction cs with
  | nil =>
    intro i has hpl hn hv
    refine r_iload (pc := 8) dX8_hasLetter_8 rfl ?_
    refine r_bipush (pc := 10) (v := 40) dX8_hasLetter_10 (by decide) ?_
    refine r_iload_n (pc := 12) dX8_hasLetter_12 rfl rfl ?_
    refine r_imul (pc := 13) dX8_hasLetter_13 ?_
    refine r_aload_n (pc := 14) dX8_hasLetter_14 rfl rfl ?_
    refine mg_16 (pc := 15) hP rfl dX8_hasLetter_15 ?_
    refine r_iload_n (pc := 18) dX8_hasLetter_18 rfl rfl ?_
    refine mln_3 (pc := 19) (it) hP ⟨rfl, hit⟩ dX8_hasLetter_19 ?_
    refine r_iadd (pc := 20) dX8_hasLetter_20 ?_
    refine r_icmp_ge (pc := 21) (tgt := 55) dX8_hasLetter_21 (by decide) (fun h21 => ?_) (fun h => absurd (by rw [n40, hl0, nI_add, show 40 * it + i = 40 * it + n by simp at hn; omega]; exact Int32.le_refl _) h)
    refine r_iload_n (pc := 55) dX8_hasLetter_55 rfl rfl ?_
    refine r_iret (pc := 56) rfl (bi_nar _) dX8_hasLetter_56 ?_
    exact ⟨by rw [← hv]; simp [anyE], rfl⟩
  | cons c cs ih =>
    intro i has hpl hn hv
    refine r_iload (pc := 8) dX8_hasLetter_8 rfl ?_
    refine r_bipush (pc := 10) (v := 40) dX8_hasLetter_10 (by decide) ?_
    refine r_iload_n (pc := 12) dX8_hasLetter_12 rfl rfl ?_
    refine r_imul (pc := 13) dX8_hasLetter_13 ?_
    refine r_aload_n (pc := 14) dX8_hasLetter_14 rfl rfl ?_
    refine mg_16 (pc := 15) hP rfl dX8_hasLetter_15 ?_
    refine r_iload_n (pc := 18) dX8_hasLetter_18 rfl rfl ?_
    refine mln_3 (pc := 19) (it) hP ⟨rfl, hit⟩ dX8_hasLetter_19 ?_
    refine r_iadd (pc := 20) dX8_hasLetter_20 ?_
    refine r_icmp_ge (pc := 21) (tgt := 55) dX8_hasLetter_21 (by decide) (fun h => absurd h (by rw [n40, hl0, nI_add]; exact nI_ge9 (by simp at hn; omega) (by simp at hn; omega))) (fun h21 => ?_)
    refine r_iload_n (pc := 24) dX8_hasLetter_24 rfl rfl ?_
    refine r_if_ne (pc := 25) (tgt := 43) dX8_hasLetter_25 (by decide) (fun h25 => ?_) (fun h25 => ?_)
    · refine r_iconst (pc := 43) (v := 1) dX8_hasLetter_43 (by decide) ?_
      refine r_goto (pc := 44) (tgt := 48) dX8_hasLetter_44 (by decide) ?_
      refine r_istore_n (pc := 48) dX8_hasLetter_48 rfl (Nat.le_of_ble_eq_true rfl) rfl ?_
      refine r_iincK (pc := 49) (k9 := 1) dX8_hasLetter_49 (by decide) rfl (Nat.le_of_ble_eq_true rfl) rfl ?_
      refine r_goto (pc := 52) (tgt := 8) dX8_hasLetter_52 (by decide) ?_
      rw [nI_1]
      have hh : has = true := bi_ne.mp h25
      exact ih (i + 1) true (fun j x hx => by rw [show 40 * it + (i + 1) + j = 40 * it + i + (j + 1) by omega]; exact hpl (j + 1) x (by simpa using hx)) (by simp at hn ⊢; omega) (by rw [← hv]; simp [anyE, hh])
    · refine r_aload_n (pc := 28) dX8_hasLetter_28 rfl rfl ?_
      refine mg_13 (pc := 29) hP rfl dX8_hasLetter_29 ?_
      refine r_iload (pc := 32) dX8_hasLetter_32 rfl ?_
      refine mln_2 (pc := 34) (40 * it + i) hP ⟨rfl, by simp at hn; omega⟩ dX8_hasLetter_34 ?_
      rw [show ar 2 (40 * it + i) = c from hpl 0 c rfl]
      refine r_sipush (pc := 35) (v := 1000) dX8_hasLetter_35 (by decide) ?_
      refine r_iload_n (pc := 38) dX8_hasLetter_38 rfl rfl ?_
      refine r_iadd (pc := 39) dX8_hasLetter_39 ?_
      refine r_icmp_ne (pc := 40) (tgt := 47) dX8_hasLetter_40 (by decide) (fun h40 => ?_) (fun h40 => ?_)
      · refine r_iconst (pc := 47) (v := 0) dX8_hasLetter_47 (by decide) ?_
        refine r_istore_n (pc := 48) dX8_hasLetter_48 rfl (Nat.le_of_ble_eq_true rfl) rfl ?_
        refine r_iincK (pc := 49) (k9 := 1) dX8_hasLetter_49 (by decide) rfl (Nat.le_of_ble_eq_true rfl) rfl ?_
        refine r_goto (pc := 52) (tgt := 8) dX8_hasLetter_52 (by decide) ?_
        rw [nI_1]
        have hh : has = false := bi_eq.mp h25
        have h41 : ¬ c = 1000 + nI fn := h40
        exact ih (i + 1) false (fun j x hx => by rw [show 40 * it + (i + 1) + j = 40 * it + i + (j + 1) by omega]; exact hpl (j + 1) x (by simpa using hx)) (by simp at hn ⊢; omega) (by rw [← hv]; simp [anyE, hh, h41])
      · refine r_iconst (pc := 43) (v := 1) dX8_hasLetter_43 (by decide) ?_
        refine r_goto (pc := 44) (tgt := 48) dX8_hasLetter_44 (by decide) ?_
        refine r_istore_n (pc := 48) dX8_hasLetter_48 rfl (Nat.le_of_ble_eq_true rfl) rfl ?_
        refine r_iincK (pc := 49) (k9 := 1) dX8_hasLetter_49 (by decide) rfl (Nat.le_of_ble_eq_true rfl) rfl ?_
        refine r_goto (pc := 52) (tgt := 8) dX8_hasLetter_52 (by decide) ?_
        rw [nI_1]
        have hh : has = false := bi_eq.mp h25
        have h41 : c = 1000 + nI fn := h40
        exact ih (i + 1) true (fun j x hx => by rw [show 40 * it + (i + 1) + j = 40 * it + i + (j + 1) by omega]; exact hpl (j + 1) x (by simpa using hx)) (by simp at hn ⊢; omega) (by rw [← hv]; simp [anyE, hh, h41])
set_option maxRecDepth 100000 in
set_option maxHeartbeats 4000000 in
theorem am_hasLetter {G : aw_G} {P T : List va_E} {sc : Nat → Int32} {ar : Nat → Nat → Int32} (hP : P.length = 12) {row : List Int32} {fn it : Nat} (hc : crow ar it row) : AM G fX8_hasLetter [.ref 12, .int (nI it), .int (nI fn)] (mw P sc ar T) (qx (.inl (some (.int (bi (anyE (1000 + nI fn) row))))) (mw P sc ar T)) := by
  refine AM_of (by decide) rfl rfl (Nat.le_of_ble_eq_true rfl) ?_
  show AW G fX8_hasLetter 0 0 (mw P sc ar T) 0 [some (.ref 12), some (.int (nI it)), some (.int (nI fn)), none, none] [] _
  refine r_iconst (pc := 0) (v := 0) dX8_hasLetter_0 (by decide) ?_
  refine r_istore_n (pc := 1) dX8_hasLetter_1 rfl (Nat.le_of_ble_eq_true rfl) rfl ?_
  refine r_bipush (pc := 2) (v := 40) dX8_hasLetter_2 (by decide) ?_
  refine r_iload_n (pc := 4) dX8_hasLetter_4 rfl rfl ?_
  refine r_imul (pc := 5) dX8_hasLetter_5 ?_
  refine r_istore (pc := 6) dX8_hasLetter_6 (Nat.le_of_ble_eq_true rfl) rfl ?_
  rw [n40]
  exact hl_loop hP (anyE (1000 + nI fn) row) fn it row.length hc.1 hc.2.2.1 hc.2.1 row 0 false (fun j x hx => hc.2.2.2 j x hx) (Nat.zero_add _) rfl

set_option maxRecDepth 100000 in
set_option maxHeartbeats 4000000 in
theorem aa_loop {G : aw_G} {P T : List va_E} {sc : Nat → Int32} {ar : Nat → Nat → Int32} (hP : P.length = 12) (v : Bool) (it ot n : Nat) (hit : it < 110) (hot : ot < 110) (hl0 : ar 3 it = nI n) (hn40 : n ≤ 40) : ∀ (cs ds : List Int32) (i : Nat) (are : Bool), (∀ j x, cs[j]? = some x → ar 2 (40 * it + i + j) = x) → (∀ j x, ds[j]? = some x → ar 2 (40 * ot + i + j) = x) → i + cs.length = n → (are = true → cs.length = ds.length) → (are && decide (cs = ds)) = v → AW G fX8_areAlike 0 0 (mw P sc ar T) 24 [some (.ref 12), some (.int (nI it)), some (.int (nI ot)), some (.int (bi are)), some (.int (nI i))] [] (qx (.inl (some (.int (bi v)))) (mw P sc ar T)) := by
  intro cs
  induction cs with
  | nil =>
    intro ds i are hpl hpl2 hn hlen hv
    refine r_iload (pc := 24) dX8_areAlike_24 rfl ?_
    refine r_aload_n (pc := 26) dX8_areAlike_26 rfl rfl ?_
    refine mg_16 (pc := 27) hP rfl dX8_areAlike_27 ?_
    refine r_iload_n (pc := 30) dX8_areAlike_30 rfl rfl ?_
    refine mln_3 (pc := 31) (it) hP ⟨rfl, hit⟩ dX8_areAlike_31 ?_
    refine r_icmp_ge (pc := 32) (tgt := 78) dX8_areAlike_32 (by decide) (fun h32 => ?_) (fun h => absurd (by rw [hl0, show i = n by simp at hn; omega]; exact Int32.le_refl _) h)
    refine r_iload_n (pc := 78) dX8_areAlike_78 rfl rfl ?_
    refine r_iret (pc := 79) rfl (bi_nar _) dX8_areAlike_79 ?_
    refine ⟨?_, rfl⟩
    rw [← hv]
    cases are with
    | false => rfl
    | true =>
      have h9 := hlen rfl
      cases ds with
      | nil => rfl
      | cons d d2 => cases h9
  | cons c cs ih =>
    intro ds i are hpl hpl2 hn hlen hv
    refine r_iload (pc := 24) dX8_areAlike_24 rfl ?_
    refine r_aload_n (pc := 26) dX8_areAlike_26 rfl rfl ?_
    refine mg_16 (pc := 27) hP rfl dX8_areAlike_27 ?_
    refine r_iload_n (pc := 30) dX8_areAlike_30 rfl rfl ?_
    refine mln_3 (pc := 31) (it) hP ⟨rfl, hit⟩ dX8_areAlike_31 ?_
    refine r_icmp_ge (pc := 32) (tgt := 78) dX8_areAlike_32 (by decide) (fun h => absurd h (by rw [hl0]; exact nI_ge9 (by simp at hn; omega) (by simp at hn; omega))) (fun h32 => ?_)
    refine r_iload_n (pc := 35) dX8_areAlike_35 rfl rfl ?_
    refine r_if_eq (pc := 36) (tgt := 78) dX8_areAlike_36 (by decide) (fun h36 => ?_) (fun h36 => ?_)
    · refine r_iload_n (pc := 78) dX8_areAlike_78 rfl rfl ?_
      refine r_iret (pc := 79) rfl (bi_nar _) dX8_areAlike_79 ?_
      have hh : are = false := bi_eq.mp h36
      exact ⟨by rw [← hv, hh]; rfl, rfl⟩
    · obtain ⟨d, d2, rfl⟩ : ∃ d d2, ds = d :: d2 := by
        cases ds with
        | nil => exact absurd (hlen (bi_ne.mp h36)) (by simp)
        | cons d d2 => exact ⟨d, d2, rfl⟩
      refine r_aload_n (pc := 39) dX8_areAlike_39 rfl rfl ?_
      refine mg_13 (pc := 40) hP rfl dX8_areAlike_40 ?_
      refine r_bipush (pc := 43) (v := 40) dX8_areAlike_43 (by decide) ?_
      refine r_iload_n (pc := 45) dX8_areAlike_45 rfl rfl ?_
      refine r_imul (pc := 46) dX8_areAlike_46 ?_
      refine r_iload (pc := 47) dX8_areAlike_47 rfl ?_
      refine r_iadd (pc := 49) dX8_areAlike_49 ?_
      refine mln_2 (pc := 50) (40 * it + i) hP ⟨by rw [n40, nI_add], by simp at hn; omega⟩ dX8_areAlike_50 ?_
      rw [show ar 2 (40 * it + i) = c from hpl 0 c rfl]
      refine r_aload_n (pc := 51) dX8_areAlike_51 rfl rfl ?_
      refine mg_13 (pc := 52) hP rfl dX8_areAlike_52 ?_
      refine r_bipush (pc := 55) (v := 40) dX8_areAlike_55 (by decide) ?_
      refine r_iload_n (pc := 57) dX8_areAlike_57 rfl rfl ?_
      refine r_imul (pc := 58) dX8_areAlike_58 ?_
      refine r_iload (pc := 59) dX8_areAlike_59 rfl ?_
      refine r_iadd (pc := 61) dX8_areAlike_61 ?_
      refine mln_2 (pc := 62) (40 * ot + i) hP ⟨by rw [n40, nI_add], by have := hlen (bi_ne.mp h36); simp at hn this; omega⟩ dX8_areAlike_62 ?_
      rw [show ar 2 (40 * ot + i) = d from hpl2 0 d rfl]
      refine r_icmp_ne (pc := 63) (tgt := 70) dX8_areAlike_63 (by decide) (fun h63 => ?_) (fun h63 => ?_)
      · refine r_iconst (pc := 70) (v := 0) dX8_areAlike_70 (by decide) ?_
        refine r_istore_n (pc := 71) dX8_areAlike_71 rfl (Nat.le_of_ble_eq_true rfl) rfl ?_
        refine r_iincK (pc := 72) (k9 := 1) dX8_areAlike_72 (by decide) rfl (Nat.le_of_ble_eq_true rfl) rfl ?_
        refine r_goto (pc := 75) (tgt := 24) dX8_areAlike_75 (by decide) ?_
        have hh : are = true := bi_ne.mp h36
        have he : ¬ c = d := h63
        rw [nI_1]
        exact ih d2 (i + 1) false (fun j x hx => by rw [show 40 * it + (i + 1) + j = 40 * it + i + (j + 1) by omega]; exact hpl (j + 1) x (by simpa using hx)) (fun j x hx => by rw [show 40 * ot + (i + 1) + j = 40 * ot + i + (j + 1) by omega]; exact hpl2 (j + 1) x (by simpa using hx)) (by simp at hn ⊢; omega) (fun _ => by simpa using hlen (bi_ne.mp h36)) (by rw [← hv]; simp [hh, he])
      · refine r_iconst (pc := 66) (v := 1) dX8_areAlike_66 (by decide) ?_
        refine r_goto (pc := 67) (tgt := 71) dX8_areAlike_67 (by decide) ?_
        refine r_istore_n (pc := 71) dX8_areAlike_71 rfl (Nat.le_of_ble_eq_true rfl) rfl ?_
        refine r_iincK (pc := 72) (k9 := 1) dX8_areAlike_72 (by decide) rfl (Nat.le_of_ble_eq_true rfl) rfl ?_
        refine r_goto (pc := 75) (tgt := 24) dX8_areAlike_75 (by decide) ?_
        have hh : are = true := bi_ne.mp h36
        have he : c = d := h63
        rw [nI_1]
        exact ih d2 (i + 1) true (fun j x hx => by rw [show 40 * it + (i + 1) + j = 40 * it + i + (j + 1) by omega]; exact hpl (j + 1) x (by simpa using hx)) (fun j x hx => by rw [show 40 * ot + (i + 1) + j = 40 * ot + i + (j + 1) by omega]; exact hpl2 (j + 1) x (by simpa using hx)) (by simp at hn ⊢; omega) (fun _ => by simpa using hlen (bi_ne.mp h36)) (by rw [← hv]; simp [hh, he])
set_option maxRecDepth 100000 in
set_option maxHeartbeats 4000000 in
theorem am_areAlike {G : aw_G} {P T : List va_E} {sc : Nat → Int32} {ar : Nat → Nat → Int32} (hP : P.length = 12) {row row2 : List Int32} {it ot : Nat} (hc : crow ar it row) (hc2 : crow ar ot row2) : AM G fX8_areAlike [.ref 12, .int (nI it), .int (nI ot)] (mw P sc ar T) (qx (.inl (some (.int (bi (decide (row = row2)))))) (mw P sc ar T)) := by
  refine AM_of (by decide) rfl rfl (Nat.le_of_ble_eq_true rfl) ?_
  show AW G fX8_areAlike 0 0 (mw P sc ar T) 0 [some (.ref 12), some (.int (nI it)), some (.int (nI ot)), none, none] [] _
  refine r_aload_n (pc := 0) dX8_areAlike_0 rfl rfl ?_
  refine mg_16 (pc := 1) hP rfl dX8_areAlike_1 ?_
  refine r_iload_n (pc := 4) dX8_areAlike_4 rfl rfl ?_
  refine mln_3 (pc := 5) (it) hP ⟨rfl, hc.1⟩ dX8_areAlike_5 ?_
  refine r_aload_n (pc := 6) dX8_areAlike_6 rfl rfl ?_
  refine mg_16 (pc := 7) hP rfl dX8_areAlike_7 ?_
  refine r_iload_n (pc := 10) dX8_areAlike_10 rfl rfl ?_
  refine mln_3 (pc := 11) (ot) hP ⟨rfl, hc2.1⟩ dX8_areAlike_11 ?_
  refine r_icmp_ne (pc := 12) (tgt := 19) dX8_areAlike_12 (by decide) (fun h12 => ?_) (fun h12 => ?_)
  · refine r_iconst (pc := 19) (v := 0) dX8_areAlike_19 (by decide) ?_
    refine r_istore_n (pc := 20) dX8_areAlike_20 rfl (Nat.le_of_ble_eq_true rfl) rfl ?_
    refine r_iconst (pc := 21) (v := 0) dX8_areAlike_21 (by decide) ?_
    refine r_istore (pc := 22) dX8_areAlike_22 (Nat.le_of_ble_eq_true rfl) rfl ?_
    have he : ¬ row = row2 := fun z => h12 (by rw [hc.2.2.1, hc2.2.2.1, z])
    exact aa_loop hP (decide (row = row2)) it ot row.length hc.1 hc2.1 hc.2.2.1 hc.2.1 row row2 0 false (fun j x hx => hc.2.2.2 j x hx) (fun j x hx => hc2.2.2.2 j x hx) (Nat.zero_add _) (fun z => by cases z) (by simp [he])
  · refine r_iconst (pc := 15) (v := 1) dX8_areAlike_15 (by decide) ?_
    refine r_goto (pc := 16) (tgt := 20) dX8_areAlike_16 (by decide) ?_
    refine r_istore_n (pc := 20) dX8_areAlike_20 rfl (Nat.le_of_ble_eq_true rfl) rfl ?_
    refine r_iconst (pc := 21) (v := 0) dX8_areAlike_21 (by decide) ?_
    refine r_istore (pc := 22) dX8_areAlike_22 (Nat.le_of_ble_eq_true rfl) rfl ?_
    have he : row.length = row2.length := (nI_eq (by have := hc.2.1; omega) (by have := hc2.2.1; omega)).mp (by rw [← hc.2.2.1, ← hc2.2.2.1]; exact h12)
    exact aa_loop hP (decide (row = row2)) it ot row.length hc.1 hc2.1 hc.2.2.1 hc.2.1 row row2 0 true (fun j x hx => hc.2.2.2 j x hx) (fun j x hx => hc2.2.2.2 j x hx) (Nat.zero_add _) (fun _ => he) (Bool.true_and _)

end M4
