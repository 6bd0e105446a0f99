/-! Contracts of the reference, second part, laid by wip/gen/m_ref.py -/
set_option maxRecDepth 100000 in
set_option maxHeartbeats 4000000 in
theorem c_M_said (l : Launch) (D : va_G) (cI cJ : ClassId) (am : Nat → Nat) (n f : Nat) (z : Int64) (S : RS) (y : Nat) (kd : Int32) (bd : Int32) (qd : Int32) (hn : n ≤ 7) (hok : rOk S) (hy : y < 7) : MRl l y_M_said (wsM y_M_said b_M_said 7 (some .long)) { frames := 1, cells := 0, slots := 0, locals := 22 } D vwK (tyl cI cJ) (rW cI cJ am n f z S) [.ref (am 0), .int (nI y), .int kd, .int bd, .int qd] (rSaidC S n y kd bd qd) := by
  refine gj_enterR (own := R_M) (by decide) rfl (Nat.le_of_ble_eq_true rfl) rfl rfl (fun p e s m below meth c cx hr hlk hK => ?_)
  refine gj_iload_n (pc := 0) cx d_M_said_0 rfl (x := kd) rfl ?_
  refine gj_iconst (pc := 1) cx d_M_said_1 (v := nI 4) (by decide) ?_
  refine gj_icmp_ne (pc := 2) cx d_M_said_2 (tgt := 30) rfl (fun hb1 => ?_) (fun hb1 => ?_)
  · refine gj_iload_n (pc := 30) cx d_M_said_30 rfl (x := kd) rfl ?_
    refine gj_if_lt (pc := 31) cx d_M_said_31 (tgt := 49) rfl (fun hb2 => ?_) (fun hb2 => ?_)
    · refine gj_ldc2 (pc := 49) cx d_M_said_49 (v := (-1)) (in_WT wm_393) ?_
      exact gj_lretR (pc := 52) cx hr hlk d_M_said_52 (by rw [rSaid_none (tpc_neg hb2)])
    · refine gj_iload_n (pc := 34) cx d_M_said_34 rfl (x := kd) rfl ?_
      refine gj_iconst (pc := 35) cx d_M_said_35 (v := nI 4) (by decide) ?_
      refine gj_icmp_gt (pc := 36) cx d_M_said_36 (tgt := 49) rfl (fun hb3 => ?_) (fun hb3 => ?_)
      · refine gj_ldc2 (pc := 49) cx d_M_said_49 (v := (-1)) (in_WT wm_393) ?_
        exact gj_lretR (pc := 52) cx hr hlk d_M_said_52 (by rw [rSaid_none (tpc_big hb3)])
      · refine gj_aload_n (pc := 39) cx d_M_said_39 rfl (x := am 0) rfl ?_
        refine gj_iload_n (pc := 40) cx d_M_said_40 rfl (x := bd) rfl ?_
        refine gj_iload (pc := 41) cx d_M_said_41 (x := qd) rfl ?_
        refine gj_callVRi (pc := 43) (As := [.int bd, .int qd]) (rest := []) (v := bI (isIn n bd qd)) cx hK (c_M_isInstance l D cI cJ am n f z S bd qd ) (cwV 2 cx.2.2.2.2 (good_V wm_396 wm_394 wm_395 wm_558 wm_5) rfl rfl rfl (by decide +kernel) ⟨Nat.le_of_ble_eq_true rfl, Nat.le_of_ble_eq_true rfl⟩) gj_rP 0 2 rfl rfl rfl rfl rfl (Nat.le_of_ble_eq_true rfl) d_M_said_43 ⟨Nat.zero_le _, Nat.zero_le _⟩ ?_
        refine gj_if_neB (pc := 46) cx d_M_said_46 (tgt := 53) rfl (fun hb4 => ?_) (fun hb4 => ?_)
        · obtain ⟨k, b, q, hk, hb, hq1, hq5, rfl, rfl, rfl⟩ := kbq_of hn hb1 hb2 hb3 hb4
          refine gj_lconst (pc := 53) cx d_M_said_53 (v := 0) (by decide) ?_
          refine gj_lstore (pc := 54) cx d_M_said_54 (lo' := [(5, .long 0), (0, .ref (am 0)), (1, .int (nI y)), (2, .int (nI k)), (3, .int (nI b)), (4, .int (nI q))]) (by decide) rfl ?_
          refine gj_iload_n (pc := 56) cx d_M_said_56 rfl (x := nI k) rfl ?_
          refine gj_iconst (pc := 57) cx d_M_said_57 (v := nI 3) (by decide) ?_
          refine gj_icmp_neN (pc := 58) cx d_M_said_58 (tgt := 78) rfl (by omega) (by omega) (fun hb5 => ?_) (fun hb5 => ?_)
          · refine gj_iload (pc := 78) cx d_M_said_78 (x := nI q) rfl ?_
            refine gj_aload_n (pc := 80) cx d_M_said_80 rfl (x := am 0) rfl ?_
            refine gj_get (pc := 81) (ci := 2) (C := R_M) (T := T_M) (N := 15) (v := .ref (am 8)) cx hK gj_rP in_M d_M_said_81 0 rfl rfl 10 (by decide) (in_WT wm_351) rfl ?_
            refine gj_bipush (pc := 84) cx d_M_said_84 (v := nI 7) (by decide) ?_
            refine gj_iload_n (pc := 86) cx d_M_said_86 rfl (x := nI y) rfl ?_
            refine gj_imulN (pc := 87) cx d_M_said_87 ?_
            refine gj_iload_n (pc := 88) cx d_M_said_88 rfl (x := nI b) rfl ?_
            refine gj_iaddN (pc := 89) cx d_M_said_89 ?_
            refine gj_ialdN (pc := 90) (i := (7 * y) + b) (f := rFr S) cx hK gj_rP d_M_said_90 8 0 rfl rfl (by omega) (by decide) ?_
            have hv6 := hok.2.2.2.1 ((7 * y) + b)
            refine gj_icmp_leN (pc := 91) cx d_M_said_91 (tgt := 169) rfl (by omega) (by omega) (fun hb7 => ?_) (fun hb7 => ?_)
            · refine gj_lload (pc := 169) cx d_M_said_169 (x := 0) rfl ?_
              refine gj_lconst (pc := 171) cx d_M_said_171 (v := 0) (by decide) ?_
              refine gj_lcmp_ne (pc := 172) cx d_M_said_172 d_M_said_173 (tgt := 182) rfl (fun hb8 => absurd hb8 (fun z => z rfl)) (fun hb8 => ?_)
              refine gj_ldc2 (pc := 176) cx d_M_said_176 (v := (-1)) (in_WT wm_393) ?_
              refine gj_goto (pc := 179) cx d_M_said_179 (tgt := 184) rfl ?_
              exact gj_lretR (pc := 184) cx hr hlk d_M_said_184 (by rw [rSaid_kbq hn hk hb hq1 hq5, (show rSd0 S y k b q = 0 from (by unfold rSd0; rw [if_neg, if_neg] <;> first | rfl | assumption | omega)), if_pos rfl])
            · refine gj_iload_n (pc := 94) cx d_M_said_94 rfl (x := nI k) rfl ?_
              refine gj_iconst (pc := 95) cx d_M_said_95 (v := nI 1) (by decide) ?_
              refine gj_icmp_neN (pc := 96) cx d_M_said_96 (tgt := 116) rfl (by omega) (by omega) (fun hb9 => ?_) (fun hb9 => ?_)
              · refine gj_iload_n (pc := 116) cx d_M_said_116 rfl (x := nI k) rfl ?_
                refine gj_iconst (pc := 117) cx d_M_said_117 (v := nI 2) (by decide) ?_
                refine gj_icmp_neN (pc := 118) cx d_M_said_118 (tgt := 138) rfl (by omega) (by omega) (fun hb10 => ?_) (fun hb10 => ?_)
                · refine gj_iload_n (pc := 138) cx d_M_said_138 rfl (x := nI y) rfl ?_
                  refine gj_iload_n (pc := 139) cx d_M_said_139 rfl (x := nI b) rfl ?_
                  refine gj_icmp_neN (pc := 140) cx d_M_said_140 (tgt := 169) rfl (by omega) (by omega) (fun hb11 => ?_) (fun hb11 => ?_)
                  · refine gj_lload (pc := 169) cx d_M_said_169 (x := 0) rfl ?_
                    refine gj_lconst (pc := 171) cx d_M_said_171 (v := 0) (by decide) ?_
                    refine gj_lcmp_ne (pc := 172) cx d_M_said_172 d_M_said_173 (tgt := 182) rfl (fun hb12 => absurd hb12 (fun z => z rfl)) (fun hb12 => ?_)
                    refine gj_ldc2 (pc := 176) cx d_M_said_176 (v := (-1)) (in_WT wm_393) ?_
                    refine gj_goto (pc := 179) cx d_M_said_179 (tgt := 184) rfl ?_
                    exact gj_lretR (pc := 184) cx hr hlk d_M_said_184 (by rw [rSaid_kbq hn hk hb hq1 hq5, (show rSd0 S y k b q = 0 from (by unfold rSd0; rw [if_neg, if_pos, if_neg, if_neg, if_neg] <;> first | rfl | assumption | omega)), if_pos rfl])
                  · refine gj_iload (pc := 143) cx d_M_said_143 (x := nI q) rfl ?_
                    refine gj_aload_n (pc := 145) cx d_M_said_145 rfl (x := am 0) rfl ?_
                    refine gj_get (pc := 146) (ci := 2) (C := R_M) (T := T_M) (N := 15) (v := .ref (am 3)) cx hK gj_rP in_M d_M_said_146 0 rfl rfl 5 (by decide) (in_WT wm_346) rfl ?_
                    refine gj_iload_n (pc := 149) cx d_M_said_149 rfl (x := nI y) rfl ?_
                    refine gj_ialdN (pc := 150) (i := y) (f := rSu S) cx hK gj_rP d_M_said_150 3 0 rfl rfl (by omega) (by decide) ?_
                    have hv13 := hok.2.2.1 y
                    refine gj_icmp_gtN (pc := 151) cx d_M_said_151 (tgt := 169) rfl (by omega) (by omega) (fun hb14 => ?_) (fun hb14 => ?_)
                    · refine gj_lload (pc := 169) cx d_M_said_169 (x := 0) rfl ?_
                      refine gj_lconst (pc := 171) cx d_M_said_171 (v := 0) (by decide) ?_
                      refine gj_lcmp_ne (pc := 172) cx d_M_said_172 d_M_said_173 (tgt := 182) rfl (fun hb15 => absurd hb15 (fun z => z rfl)) (fun hb15 => ?_)
                      refine gj_ldc2 (pc := 176) cx d_M_said_176 (v := (-1)) (in_WT wm_393) ?_
                      refine gj_goto (pc := 179) cx d_M_said_179 (tgt := 184) rfl ?_
                      exact gj_lretR (pc := 184) cx hr hlk d_M_said_184 (by rw [rSaid_kbq hn hk hb hq1 hq5, (show rSd0 S y k b q = 0 from (by unfold rSd0; rw [if_neg, if_pos, if_neg, if_neg, if_neg] <;> first | rfl | assumption | omega)), if_pos rfl])
                    · refine gj_aload_n (pc := 154) cx d_M_said_154 rfl (x := am 0) rfl ?_
                      refine gj_get (pc := 155) (ci := 2) (C := R_M) (T := T_M) (N := 15) (v := .ref (am 4)) cx hK gj_rP in_M d_M_said_155 0 rfl rfl 6 (by decide) (in_WT wm_347) rfl ?_
                      refine gj_iconst (pc := 158) cx d_M_said_158 (v := nI 5) (by decide) ?_
                      refine gj_iload_n (pc := 159) cx d_M_said_159 rfl (x := nI y) rfl ?_
                      refine gj_imulN (pc := 160) cx d_M_said_160 ?_
                      refine gj_iload (pc := 161) cx d_M_said_161 (x := nI q) rfl ?_
                      refine gj_iaddN (pc := 163) cx d_M_said_163 ?_
                      refine gj_iconst (pc := 164) cx d_M_said_164 (v := nI 1) (by decide) ?_
                      refine gj_isubN (pc := 165) cx d_M_said_165 (by omega) ?_
                      refine gj_lald (pc := 166) (i := ((5 * y) + q) - 1) (f := rOw S) cx hK gj_rP d_M_said_166 4 1 rfl rfl (by omega) (by decide) ?_
                      refine gj_lstore (pc := 167) cx d_M_said_167 (lo' := [(5, .long (rOw S (((5 * y) + q) - 1))), (0, .ref (am 0)), (1, .int (nI y)), (2, .int (nI k)), (3, .int (nI b)), (4, .int (nI q))]) (by decide) rfl ?_
                      refine gj_lload (pc := 169) cx d_M_said_169 (x := rOw S (((5 * y) + q) - 1)) rfl ?_
                      refine gj_lconst (pc := 171) cx d_M_said_171 (v := 0) (by decide) ?_
                      refine gj_lcmp_ne (pc := 172) cx d_M_said_172 d_M_said_173 (tgt := 182) rfl (fun hb16 => ?_) (fun hb16 => ?_)
                      · refine gj_lload (pc := 182) cx d_M_said_182 (x := rOw S (((5 * y) + q) - 1)) rfl ?_
                        exact gj_lretR (pc := 184) cx hr hlk d_M_said_184 (by rw [rSaid_kbq hn hk hb hq1 hq5, (show rSd0 S y k b q = rOw S (((5 * y) + q) - 1) from (by unfold rSd0; rw [if_neg, if_pos, if_neg, if_neg, if_pos] <;> first | rfl | assumption | omega)), if_neg hb16])
                      · refine gj_ldc2 (pc := 176) cx d_M_said_176 (v := (-1)) (in_WT wm_393) ?_
                        refine gj_goto (pc := 179) cx d_M_said_179 (tgt := 184) rfl ?_
                        exact gj_lretR (pc := 184) cx hr hlk d_M_said_184 (by rw [rSaid_kbq hn hk hb hq1 hq5, (show rSd0 S y k b q = rOw S (((5 * y) + q) - 1) from (by unfold rSd0; rw [if_neg, if_pos, if_neg, if_neg, if_pos] <;> first | rfl | assumption | omega)), if_pos hb16])
                · refine gj_aload_n (pc := 121) cx d_M_said_121 rfl (x := am 0) rfl ?_
                  refine gj_get (pc := 122) (ci := 2) (C := R_M) (T := T_M) (N := 15) (v := .ref (am 6)) cx hK gj_rP in_M d_M_said_122 0 rfl rfl 8 (by decide) (in_WT wm_349) rfl ?_
                  refine gj_iload_n (pc := 125) cx d_M_said_125 rfl (x := nI y) rfl ?_
                  refine gj_iload_n (pc := 126) cx d_M_said_126 rfl (x := nI b) rfl ?_
                  refine gj_iload (pc := 127) cx d_M_said_127 (x := nI q) rfl ?_
                  refine gj_callSRi (pc := 129) (As := [.int (nI y), .int (nI b), .int (nI q)]) (rest := [.ref (am 6)]) (v := nI ((y * 7 + b) * 5 + q - 1)) cx hK (c_M_at l D (tyl cI cJ) y b q (by omega)) (va_cwS 3 cx.2.2.2.2 (good_S wm_399 wm_397 wm_398 wm_5) rfl rfl rfl (by decide +kernel) ⟨Nat.le_of_ble_eq_true rfl, Nat.le_of_ble_eq_true rfl⟩) (fun _ _ _ => gj_P0) rfl rfl (Nat.le_of_ble_eq_true rfl) d_M_said_129 ⟨Nat.zero_le _, Nat.zero_le _⟩ ?_
                  refine gj_lald (pc := 132) (i := (y * 7 + b) * 5 + q - 1) (f := rRe S) cx hK gj_rP d_M_said_132 6 1 rfl rfl (by omega) (by decide) ?_
                  refine gj_lstore (pc := 133) cx d_M_said_133 (lo' := [(5, .long (rRe S ((y * 7 + b) * 5 + q - 1))), (0, .ref (am 0)), (1, .int (nI y)), (2, .int (nI k)), (3, .int (nI b)), (4, .int (nI q))]) (by decide) rfl ?_
                  refine gj_goto (pc := 135) cx d_M_said_135 (tgt := 169) rfl ?_
                  refine gj_lload (pc := 169) cx d_M_said_169 (x := rRe S ((y * 7 + b) * 5 + q - 1)) rfl ?_
                  refine gj_lconst (pc := 171) cx d_M_said_171 (v := 0) (by decide) ?_
                  refine gj_lcmp_ne (pc := 172) cx d_M_said_172 d_M_said_173 (tgt := 182) rfl (fun hb17 => ?_) (fun hb17 => ?_)
                  · refine gj_lload (pc := 182) cx d_M_said_182 (x := rRe S ((y * 7 + b) * 5 + q - 1)) rfl ?_
                    exact gj_lretR (pc := 184) cx hr hlk d_M_said_184 (by rw [rSaid_kbq hn hk hb hq1 hq5, (show rSd0 S y k b q = rRe S ((y * 7 + b) * 5 + q - 1) from (by unfold rSd0; rw [if_neg, if_pos, if_neg, if_pos] <;> first | rfl | assumption | omega)), if_neg hb17])
                  · refine gj_ldc2 (pc := 176) cx d_M_said_176 (v := (-1)) (in_WT wm_393) ?_
                    refine gj_goto (pc := 179) cx d_M_said_179 (tgt := 184) rfl ?_
                    exact gj_lretR (pc := 184) cx hr hlk d_M_said_184 (by rw [rSaid_kbq hn hk hb hq1 hq5, (show rSd0 S y k b q = rRe S ((y * 7 + b) * 5 + q - 1) from (by unfold rSd0; rw [if_neg, if_pos, if_neg, if_pos] <;> first | rfl | assumption | omega)), if_pos hb17])
              · refine gj_aload_n (pc := 99) cx d_M_said_99 rfl (x := am 0) rfl ?_
                refine gj_get (pc := 100) (ci := 2) (C := R_M) (T := T_M) (N := 15) (v := .ref (am 5)) cx hK gj_rP in_M d_M_said_100 0 rfl rfl 7 (by decide) (in_WT wm_348) rfl ?_
                refine gj_iload_n (pc := 103) cx d_M_said_103 rfl (x := nI y) rfl ?_
                refine gj_iload_n (pc := 104) cx d_M_said_104 rfl (x := nI b) rfl ?_
                refine gj_iload (pc := 105) cx d_M_said_105 (x := nI q) rfl ?_
                refine gj_callSRi (pc := 107) (As := [.int (nI y), .int (nI b), .int (nI q)]) (rest := [.ref (am 5)]) (v := nI ((y * 7 + b) * 5 + q - 1)) cx hK (c_M_at l D (tyl cI cJ) y b q (by omega)) (va_cwS 3 cx.2.2.2.2 (good_S wm_399 wm_397 wm_398 wm_5) rfl rfl rfl (by decide +kernel) ⟨Nat.le_of_ble_eq_true rfl, Nat.le_of_ble_eq_true rfl⟩) (fun _ _ _ => gj_P0) rfl rfl (Nat.le_of_ble_eq_true rfl) d_M_said_107 ⟨Nat.zero_le _, Nat.zero_le _⟩ ?_
                refine gj_lald (pc := 110) (i := (y * 7 + b) * 5 + q - 1) (f := rEc S) cx hK gj_rP d_M_said_110 5 1 rfl rfl (by omega) (by decide) ?_
                refine gj_lstore (pc := 111) cx d_M_said_111 (lo' := [(5, .long (rEc S ((y * 7 + b) * 5 + q - 1))), (0, .ref (am 0)), (1, .int (nI y)), (2, .int (nI k)), (3, .int (nI b)), (4, .int (nI q))]) (by decide) rfl ?_
                refine gj_goto (pc := 113) cx d_M_said_113 (tgt := 169) rfl ?_
                refine gj_lload (pc := 169) cx d_M_said_169 (x := rEc S ((y * 7 + b) * 5 + q - 1)) rfl ?_
                refine gj_lconst (pc := 171) cx d_M_said_171 (v := 0) (by decide) ?_
                refine gj_lcmp_ne (pc := 172) cx d_M_said_172 d_M_said_173 (tgt := 182) rfl (fun hb18 => ?_) (fun hb18 => ?_)
                · refine gj_lload (pc := 182) cx d_M_said_182 (x := rEc S ((y * 7 + b) * 5 + q - 1)) rfl ?_
                  exact gj_lretR (pc := 184) cx hr hlk d_M_said_184 (by rw [rSaid_kbq hn hk hb hq1 hq5, (show rSd0 S y k b q = rEc S ((y * 7 + b) * 5 + q - 1) from (by unfold rSd0; rw [if_neg, if_pos, if_pos] <;> first | rfl | assumption | omega)), if_neg hb18])
                · refine gj_ldc2 (pc := 176) cx d_M_said_176 (v := (-1)) (in_WT wm_393) ?_
                  refine gj_goto (pc := 179) cx d_M_said_179 (tgt := 184) rfl ?_
                  exact gj_lretR (pc := 184) cx hr hlk d_M_said_184 (by rw [rSaid_kbq hn hk hb hq1 hq5, (show rSd0 S y k b q = rEc S ((y * 7 + b) * 5 + q - 1) from (by unfold rSd0; rw [if_neg, if_pos, if_pos] <;> first | rfl | assumption | omega)), if_pos hb18])
          · refine gj_aload_n (pc := 61) cx d_M_said_61 rfl (x := am 0) rfl ?_
            refine gj_get (pc := 62) (ci := 2) (C := R_M) (T := T_M) (N := 15) (v := .ref (am 7)) cx hK gj_rP in_M d_M_said_62 0 rfl rfl 9 (by decide) (in_WT wm_350) rfl ?_
            refine gj_iload_n (pc := 65) cx d_M_said_65 rfl (x := nI y) rfl ?_
            refine gj_iload_n (pc := 66) cx d_M_said_66 rfl (x := nI b) rfl ?_
            refine gj_iload (pc := 67) cx d_M_said_67 (x := nI q) rfl ?_
            refine gj_callSRi (pc := 69) (As := [.int (nI y), .int (nI b), .int (nI q)]) (rest := [.ref (am 7)]) (v := nI ((y * 7 + b) * 5 + q - 1)) cx hK (c_M_at l D (tyl cI cJ) y b q (by omega)) (va_cwS 3 cx.2.2.2.2 (good_S wm_399 wm_397 wm_398 wm_5) rfl rfl rfl (by decide +kernel) ⟨Nat.le_of_ble_eq_true rfl, Nat.le_of_ble_eq_true rfl⟩) (fun _ _ _ => gj_P0) rfl rfl (Nat.le_of_ble_eq_true rfl) d_M_said_69 ⟨Nat.zero_le _, Nat.zero_le _⟩ ?_
            refine gj_lald (pc := 72) (i := (y * 7 + b) * 5 + q - 1) (f := rAp S) cx hK gj_rP d_M_said_72 7 1 rfl rfl (by omega) (by decide) ?_
            refine gj_lstore (pc := 73) cx d_M_said_73 (lo' := [(5, .long (rAp S ((y * 7 + b) * 5 + q - 1))), (0, .ref (am 0)), (1, .int (nI y)), (2, .int (nI k)), (3, .int (nI b)), (4, .int (nI q))]) (by decide) rfl ?_
            refine gj_goto (pc := 75) cx d_M_said_75 (tgt := 169) rfl ?_
            refine gj_lload (pc := 169) cx d_M_said_169 (x := rAp S ((y * 7 + b) * 5 + q - 1)) rfl ?_
            refine gj_lconst (pc := 171) cx d_M_said_171 (v := 0) (by decide) ?_
            refine gj_lcmp_ne (pc := 172) cx d_M_said_172 d_M_said_173 (tgt := 182) rfl (fun hb19 => ?_) (fun hb19 => ?_)
            · refine gj_lload (pc := 182) cx d_M_said_182 (x := rAp S ((y * 7 + b) * 5 + q - 1)) rfl ?_
              exact gj_lretR (pc := 184) cx hr hlk d_M_said_184 (by rw [rSaid_kbq hn hk hb hq1 hq5, (show rSd0 S y k b q = rAp S ((y * 7 + b) * 5 + q - 1) from (by unfold rSd0; rw [if_pos] <;> first | rfl | assumption | omega)), if_neg hb19])
            · refine gj_ldc2 (pc := 176) cx d_M_said_176 (v := (-1)) (in_WT wm_393) ?_
              refine gj_goto (pc := 179) cx d_M_said_179 (tgt := 184) rfl ?_
              exact gj_lretR (pc := 184) cx hr hlk d_M_said_184 (by rw [rSaid_kbq hn hk hb hq1 hq5, (show rSd0 S y k b q = rAp S ((y * 7 + b) * 5 + q - 1) from (by unfold rSd0; rw [if_pos] <;> first | rfl | assumption | omega)), if_pos hb19])
        · refine gj_ldc2 (pc := 49) cx d_M_said_49 (v := (-1)) (in_WT wm_393) ?_
          exact gj_lretR (pc := 52) cx hr hlk d_M_said_52 (by rw [rSaid_none (tpc_isIn hb1 hb4)])
  · refine gj_iload_n (pc := 5) cx d_M_said_5 rfl (x := bd) rfl ?_
    refine gj_if_ne (pc := 6) cx d_M_said_6 (tgt := 26) rfl (fun hb20 => ?_) (fun hb20 => ?_)
    · refine gj_ldc2 (pc := 26) cx d_M_said_26 (v := (-1)) (in_WT wm_393) ?_
      exact gj_lretR (pc := 29) cx hr hlk d_M_said_29 (by rw [rSaid_none (tpc_4a hb1 hb20)])
    · refine gj_iload (pc := 9) cx d_M_said_9 (x := qd) rfl ?_
      refine gj_if_ne (pc := 11) cx d_M_said_11 (tgt := 26) rfl (fun hb21 => ?_) (fun hb21 => ?_)
      · refine gj_ldc2 (pc := 26) cx d_M_said_26 (v := (-1)) (in_WT wm_393) ?_
        exact gj_lretR (pc := 29) cx hr hlk d_M_said_29 (by rw [rSaid_none (tpc_4b hb1 hb21)])
      · refine gj_aload_n (pc := 14) cx d_M_said_14 rfl (x := am 0) rfl ?_
        refine gj_get (pc := 15) (ci := 2) (C := R_M) (T := T_M) (N := 15) (v := .ref (am 9)) cx hK gj_rP in_M d_M_said_15 0 rfl rfl 11 (by decide) (in_WT wm_352) rfl ?_
        refine gj_iload_n (pc := 18) cx d_M_said_18 rfl (x := nI y) rfl ?_
        refine gj_ialdN (pc := 19) (i := y) (f := rMa S) cx hK gj_rP d_M_said_19 9 0 rfl rfl (by omega) (by decide) ?_
        have hv22 := hok.2.2.2.2.1 y
        refine gj_i2l (pc := 20) cx d_M_said_20 rfl ?_
        refine gj_tol (y := lN (rMa S y)) (nI_l (by omega)) ?_
        refine gj_lconst (pc := 21) cx d_M_said_21 (v := 1) (by decide) ?_
        refine gj_lsub (pc := 22) cx d_M_said_22 ?_
        refine gj_goto (pc := 23) cx d_M_said_23 (tgt := 29) rfl ?_
        exact gj_lretR (pc := 29) cx hr hlk d_M_said_29 (by rw [rSaid_4 hb1 hb20 hb21])

set_option maxRecDepth 100000 in
set_option maxHeartbeats 4000000 in
theorem c_M_objection (l : Launch) (D : va_G) (cI cJ : ClassId) (am : Nat → Nat) (n f : Nat) (z : Int64) (S : RS) (x : Nat) (y : Nat) (kd : Int32) (bd : Int32) (qd : Int32) (pp : Int64) (hn : n ≤ 7) (hok : rOk S) (hx : x < 7) (hy : y < 7) : MRi l y_M_objection (wsM y_M_objection b_M_objection 10 (some .int)) { frames := 2, cells := 0, slots := 0, locals := 48 } D vwK (tyl cI cJ) (rW cI cJ am n f z S) [.ref (am 0), .int (nI x), .int (nI y), .int kd, .int bd, .int qd, .long pp] (rObjC S n x y kd bd qd pp) := by
  refine gj_enterR (own := R_M) (by decide) rfl (Nat.le_of_ble_eq_true rfl) rfl rfl (fun p e s m below meth c cx hr hlk hK => ?_)
  refine gj_iload_n (pc := 0) cx d_M_objection_0 rfl (x := kd) rfl ?_
  refine gj_if_lt (pc := 1) cx d_M_objection_1 (tgt := 9) rfl (fun hb1 => ?_) (fun hb1 => ?_)
  · refine gj_bipush (pc := 9) cx d_M_objection_9 (v := (-3)) (by decide) ?_
    exact gj_iretR (pc := 11) cx hr hlk d_M_objection_11 (by rw [rObj_none (tpc_neg hb1)])
  · refine gj_iload_n (pc := 4) cx d_M_objection_4 rfl (x := kd) rfl ?_
    refine gj_iconst (pc := 5) cx d_M_objection_5 (v := nI 4) (by decide) ?_
    refine gj_icmp_le (pc := 6) cx d_M_objection_6 (tgt := 12) rfl (fun hb2 => ?_) (fun hb2 => ?_)
    · refine gj_iload_n (pc := 12) cx d_M_objection_12 rfl (x := kd) rfl ?_
      refine gj_iconst (pc := 13) cx d_M_objection_13 (v := nI 4) (by decide) ?_
      refine gj_icmp_ne (pc := 14) cx d_M_objection_14 (tgt := 66) rfl (fun hb3 => ?_) (fun hb3 => ?_)
      · refine gj_aload_n (pc := 66) cx d_M_objection_66 rfl (x := am 0) rfl ?_
        refine gj_lload (pc := 67) cx d_M_objection_67 (x := pp) rfl ?_
        refine gj_iload (pc := 69) cx d_M_objection_69 (x := bd) rfl ?_
        refine gj_iload (pc := 71) cx d_M_objection_71 (x := qd) rfl ?_
        refine gj_callVRi (pc := 73) (As := [.long pp, .int bd, .int qd]) (rest := []) (v := bI (isIn n bd qd && wfP pp (xN bd) n)) cx hK (c_M_wellFormed l D cI cJ am n f z S pp bd qd (by omega)) (cwV 3 cx.2.2.2.2 (good_V wm_413 wm_411 wm_412 wm_562 wm_5) rfl rfl rfl (by decide +kernel) ⟨Nat.le_of_ble_eq_true rfl, Nat.le_of_ble_eq_true rfl⟩) gj_rP 0 2 rfl rfl rfl rfl rfl (Nat.le_of_ble_eq_true rfl) d_M_objection_73 ⟨Nat.zero_le _, Nat.zero_le _⟩ ?_
        refine gj_if_neB (pc := 76) cx d_M_objection_76 (tgt := 82) rfl (fun hb4 => ?_) (fun hb4 => ?_)
        · obtain ⟨k, b, q, hk, hb, hq1, hq5, rfl, rfl, rfl⟩ := kbq_of hn hb3 hb1 (Int32.not_lt.mpr hb2) (isIn_wf hb4)
          have hwf := wf_in hn hb hq1 hq5 hb4
          refine gj_iload_n (pc := 82) cx d_M_objection_82 rfl (x := nI k) rfl ?_
          refine gj_if_neN (pc := 83) cx d_M_objection_83 (tgt := 95) rfl (by omega) (fun hb5 => ?_) (fun hb5 => ?_)
          · refine gj_iload (pc := 95) cx d_M_objection_95 (x := nI q) rfl ?_
            refine gj_aload_n (pc := 97) cx d_M_objection_97 rfl (x := am 0) rfl ?_
            refine gj_get (pc := 98) (ci := 2) (C := R_M) (T := T_M) (N := 15) (v := .ref (am 8)) cx hK gj_rP in_M d_M_objection_98 0 rfl rfl 10 (by decide) (in_WT wm_351) rfl ?_
            refine gj_bipush (pc := 101) cx d_M_objection_101 (v := nI 7) (by decide) ?_
            refine gj_iload_n (pc := 103) cx d_M_objection_103 rfl (x := nI x) rfl ?_
            refine gj_imulN (pc := 104) cx d_M_objection_104 ?_
            refine gj_iload (pc := 105) cx d_M_objection_105 (x := nI b) rfl ?_
            refine gj_iaddN (pc := 107) cx d_M_objection_107 ?_
            refine gj_ialdN (pc := 108) (i := (7 * x) + b) (f := rFr S) cx hK gj_rP d_M_objection_108 8 0 rfl rfl (by omega) (by decide) ?_
            have hv6 := hok.2.2.2.1 ((7 * x) + b)
            refine gj_icmp_gtN (pc := 109) cx d_M_objection_109 (tgt := 115) rfl (by omega) (by omega) (fun hb7 => ?_) (fun hb7 => ?_)
            · refine gj_iload_n (pc := 115) cx d_M_objection_115 rfl (x := nI k) rfl ?_
              refine gj_if_neN (pc := 116) cx d_M_objection_116 (tgt := 135) rfl (by omega) (fun hb8 => ?_) (fun hb8 => ?_)
              · refine gj_aload_n (pc := 135) cx d_M_objection_135 rfl (x := am 0) rfl ?_
                refine gj_get (pc := 136) (ci := 2) (C := R_M) (T := T_M) (N := 15) (v := .ref (am 10)) cx hK gj_rP in_M d_M_objection_136 0 rfl rfl 12 (by decide) (in_WT wm_353) rfl ?_
                refine gj_iload_n (pc := 139) cx d_M_objection_139 rfl (x := nI x) rfl ?_
                refine gj_iload_n (pc := 140) cx d_M_objection_140 rfl (x := nI k) rfl ?_
                refine gj_iload (pc := 141) cx d_M_objection_141 (x := nI b) rfl ?_
                refine gj_iload (pc := 143) cx d_M_objection_143 (x := nI q) rfl ?_
                refine gj_iload_n (pc := 145) cx d_M_objection_145 rfl (x := nI y) rfl ?_
                refine gj_callSRi (pc := 146) (As := [.int (nI x), .int (nI k), .int (nI b), .int (nI q), .int (nI y)]) (rest := [.ref (am 10)]) (v := nI (((x * 3 + k - 1) * 35 + b * 5 + q - 1) * 7 + y)) cx hK (c_M_ear l D (tyl cI cJ) x k b q y (by omega) (by omega)) (va_cwS 5 cx.2.2.2.2 (good_S wm_427 wm_425 wm_426 wm_5) rfl rfl rfl (by decide +kernel) ⟨Nat.le_of_ble_eq_true rfl, Nat.le_of_ble_eq_true rfl⟩) (fun _ _ _ => gj_P0) rfl rfl (Nat.le_of_ble_eq_true rfl) d_M_objection_146 ⟨Nat.zero_le _, Nat.zero_le _⟩ ?_
                refine gj_lald (pc := 149) (i := ((x * 3 + k - 1) * 35 + b * 5 + q - 1) * 7 + y) (f := rHe S) cx hK gj_rP d_M_objection_149 10 1 rfl rfl (by omega) (by decide) ?_
                refine gj_lstore (pc := 150) cx d_M_objection_150 (lo' := [(8, .long (rHe S (((x * 3 + k - 1) * 35 + b * 5 + q - 1) * 7 + y))), (0, .ref (am 0)), (1, .int (nI x)), (2, .int (nI y)), (3, .int (nI k)), (4, .int (nI b)), (5, .int (nI q)), (6, .long pp)]) (by decide) rfl ?_
                refine gj_lload (pc := 152) cx d_M_objection_152 (x := rHe S (((x * 3 + k - 1) * 35 + b * 5 + q - 1) * 7 + y)) rfl ?_
                refine gj_lconst (pc := 154) cx d_M_objection_154 (v := 0) (by decide) ?_
                refine gj_lcmp_eq (pc := 155) cx d_M_objection_155 d_M_objection_156 (tgt := 164) rfl (fun hb9 => ?_) (fun hb9 => ?_)
                · refine gj_iconst (pc := 164) cx d_M_objection_164 (v := nI 0) (by decide) ?_
                  exact gj_iretR (pc := 165) cx hr hlk d_M_objection_165 (by rw [rObj_kbq hn hk hb hq1 hq5, rOb0, if_neg (by rw [hwf]; decide), if_neg, if_neg, if_pos] <;> first | rfl | omega | (rw [if_neg] <;> first | assumption | omega))
                · refine gj_bipush (pc := 159) cx d_M_objection_159 (v := (-6)) (by decide) ?_
                  refine gj_goto (pc := 161) cx d_M_objection_161 (tgt := 165) rfl ?_
                  exact gj_iretR (pc := 165) cx hr hlk d_M_objection_165 (by rw [rObj_kbq hn hk hb hq1 hq5, rOb0, if_neg (by rw [hwf]; decide), if_neg, if_neg, if_neg] <;> first | rfl | omega | (rw [if_neg] <;> first | assumption | omega))
              · refine gj_aload_n (pc := 119) cx d_M_objection_119 rfl (x := am 0) rfl ?_
                refine gj_get (pc := 120) (ci := 2) (C := R_M) (T := T_M) (N := 15) (v := .ref (am 5)) cx hK gj_rP in_M d_M_objection_120 0 rfl rfl 7 (by decide) (in_WT wm_348) rfl ?_
                refine gj_iload_n (pc := 123) cx d_M_objection_123 rfl (x := nI x) rfl ?_
                refine gj_iload (pc := 124) cx d_M_objection_124 (x := nI b) rfl ?_
                refine gj_iload (pc := 126) cx d_M_objection_126 (x := nI q) rfl ?_
                refine gj_callSRi (pc := 128) (As := [.int (nI x), .int (nI b), .int (nI q)]) (rest := [.ref (am 5)]) (v := nI ((x * 7 + b) * 5 + q - 1)) cx hK (c_M_at l D (tyl cI cJ) x b q (by omega)) (va_cwS 3 cx.2.2.2.2 (good_S wm_399 wm_397 wm_398 wm_5) rfl rfl rfl (by decide +kernel) ⟨Nat.le_of_ble_eq_true rfl, Nat.le_of_ble_eq_true rfl⟩) (fun _ _ _ => gj_P0) rfl rfl (Nat.le_of_ble_eq_true rfl) d_M_objection_128 ⟨Nat.zero_le _, Nat.zero_le _⟩ ?_
                refine gj_lald (pc := 131) (i := (x * 7 + b) * 5 + q - 1) (f := rEc S) cx hK gj_rP d_M_objection_131 5 1 rfl rfl (by omega) (by decide) ?_
                refine gj_goto (pc := 132) cx d_M_objection_132 (tgt := 150) rfl ?_
                refine gj_lstore (pc := 150) cx d_M_objection_150 (lo' := [(8, .long (rEc S ((x * 7 + b) * 5 + q - 1))), (0, .ref (am 0)), (1, .int (nI x)), (2, .int (nI y)), (3, .int (nI k)), (4, .int (nI b)), (5, .int (nI q)), (6, .long pp)]) (by decide) rfl ?_
                refine gj_lload (pc := 152) cx d_M_objection_152 (x := rEc S ((x * 7 + b) * 5 + q - 1)) rfl ?_
                refine gj_lconst (pc := 154) cx d_M_objection_154 (v := 0) (by decide) ?_
                refine gj_lcmp_eq (pc := 155) cx d_M_objection_155 d_M_objection_156 (tgt := 164) rfl (fun hb10 => ?_) (fun hb10 => ?_)
                · refine gj_iconst (pc := 164) cx d_M_objection_164 (v := nI 0) (by decide) ?_
                  exact gj_iretR (pc := 165) cx hr hlk d_M_objection_165 (by rw [rObj_kbq hn hk hb hq1 hq5, rOb0, if_neg (by rw [hwf]; decide), if_neg, if_neg, if_pos] <;> first | rfl | omega | (rw [if_pos] <;> first | assumption | omega))
                · refine gj_bipush (pc := 159) cx d_M_objection_159 (v := (-6)) (by decide) ?_
                  refine gj_goto (pc := 161) cx d_M_objection_161 (tgt := 165) rfl ?_
                  exact gj_iretR (pc := 165) cx hr hlk d_M_objection_165 (by rw [rObj_kbq hn hk hb hq1 hq5, rOb0, if_neg (by rw [hwf]; decide), if_neg, if_neg, if_neg] <;> first | rfl | omega | (rw [if_pos] <;> first | assumption | omega))
            · refine gj_bipush (pc := 112) cx d_M_objection_112 (v := (-5)) (by decide) ?_
              exact gj_iretR (pc := 114) cx hr hlk d_M_objection_114 (by rw [rObj_kbq hn hk hb hq1 hq5, rOb0, if_neg (by rw [hwf]; decide), if_neg, if_pos] <;> first | rfl | assumption | omega)
          · refine gj_iload_n (pc := 86) cx d_M_objection_86 rfl (x := nI y) rfl ?_
            refine gj_iload (pc := 87) cx d_M_objection_87 (x := nI b) rfl ?_
            refine gj_icmp_eqN (pc := 89) cx d_M_objection_89 (tgt := 95) rfl (by omega) (by omega) (fun hb11 => ?_) (fun hb11 => ?_)
            · refine gj_iload (pc := 95) cx d_M_objection_95 (x := nI q) rfl ?_
              refine gj_aload_n (pc := 97) cx d_M_objection_97 rfl (x := am 0) rfl ?_
              refine gj_get (pc := 98) (ci := 2) (C := R_M) (T := T_M) (N := 15) (v := .ref (am 8)) cx hK gj_rP in_M d_M_objection_98 0 rfl rfl 10 (by decide) (in_WT wm_351) rfl ?_
              refine gj_bipush (pc := 101) cx d_M_objection_101 (v := nI 7) (by decide) ?_
              refine gj_iload_n (pc := 103) cx d_M_objection_103 rfl (x := nI x) rfl ?_
              refine gj_imulN (pc := 104) cx d_M_objection_104 ?_
              refine gj_iload (pc := 105) cx d_M_objection_105 (x := nI b) rfl ?_
              refine gj_iaddN (pc := 107) cx d_M_objection_107 ?_
              refine gj_ialdN (pc := 108) (i := (7 * x) + b) (f := rFr S) cx hK gj_rP d_M_objection_108 8 0 rfl rfl (by omega) (by decide) ?_
              have hv12 := hok.2.2.2.1 ((7 * x) + b)
              refine gj_icmp_gtN (pc := 109) cx d_M_objection_109 (tgt := 115) rfl (by omega) (by omega) (fun hb13 => ?_) (fun hb13 => ?_)
              · refine gj_iload_n (pc := 115) cx d_M_objection_115 rfl (x := nI k) rfl ?_
                refine gj_if_neN (pc := 116) cx d_M_objection_116 (tgt := 135) rfl (by omega) (fun hb14 => ?_) (fun hb14 => ?_)
                · refine gj_aload_n (pc := 135) cx d_M_objection_135 rfl (x := am 0) rfl ?_
                  refine gj_get (pc := 136) (ci := 2) (C := R_M) (T := T_M) (N := 15) (v := .ref (am 10)) cx hK gj_rP in_M d_M_objection_136 0 rfl rfl 12 (by decide) (in_WT wm_353) rfl ?_
                  refine gj_iload_n (pc := 139) cx d_M_objection_139 rfl (x := nI x) rfl ?_
                  refine gj_iload_n (pc := 140) cx d_M_objection_140 rfl (x := nI k) rfl ?_
                  refine gj_iload (pc := 141) cx d_M_objection_141 (x := nI b) rfl ?_
                  refine gj_iload (pc := 143) cx d_M_objection_143 (x := nI q) rfl ?_
                  refine gj_iload_n (pc := 145) cx d_M_objection_145 rfl (x := nI y) rfl ?_
                  refine gj_callSRi (pc := 146) (As := [.int (nI x), .int (nI k), .int (nI b), .int (nI q), .int (nI y)]) (rest := [.ref (am 10)]) (v := nI (((x * 3 + k - 1) * 35 + b * 5 + q - 1) * 7 + y)) cx hK (c_M_ear l D (tyl cI cJ) x k b q y (by omega) (by omega)) (va_cwS 5 cx.2.2.2.2 (good_S wm_427 wm_425 wm_426 wm_5) rfl rfl rfl (by decide +kernel) ⟨Nat.le_of_ble_eq_true rfl, Nat.le_of_ble_eq_true rfl⟩) (fun _ _ _ => gj_P0) rfl rfl (Nat.le_of_ble_eq_true rfl) d_M_objection_146 ⟨Nat.zero_le _, Nat.zero_le _⟩ ?_
                  refine gj_lald (pc := 149) (i := ((x * 3 + k - 1) * 35 + b * 5 + q - 1) * 7 + y) (f := rHe S) cx hK gj_rP d_M_objection_149 10 1 rfl rfl (by omega) (by decide) ?_
                  refine gj_lstore (pc := 150) cx d_M_objection_150 (lo' := [(8, .long (rHe S (((x * 3 + k - 1) * 35 + b * 5 + q - 1) * 7 + y))), (0, .ref (am 0)), (1, .int (nI x)), (2, .int (nI y)), (3, .int (nI k)), (4, .int (nI b)), (5, .int (nI q)), (6, .long pp)]) (by decide) rfl ?_
                  refine gj_lload (pc := 152) cx d_M_objection_152 (x := rHe S (((x * 3 + k - 1) * 35 + b * 5 + q - 1) * 7 + y)) rfl ?_
                  refine gj_lconst (pc := 154) cx d_M_objection_154 (v := 0) (by decide) ?_
                  refine gj_lcmp_eq (pc := 155) cx d_M_objection_155 d_M_objection_156 (tgt := 164) rfl (fun hb15 => ?_) (fun hb15 => ?_)
                  · refine gj_iconst (pc := 164) cx d_M_objection_164 (v := nI 0) (by decide) ?_
                    exact gj_iretR (pc := 165) cx hr hlk d_M_objection_165 (by rw [rObj_kbq hn hk hb hq1 hq5, rOb0, if_neg (by rw [hwf]; decide), if_neg, if_neg, if_pos] <;> first | rfl | omega | (rw [if_pos] <;> first | assumption | omega))
                  · refine gj_bipush (pc := 159) cx d_M_objection_159 (v := (-6)) (by decide) ?_
                    refine gj_goto (pc := 161) cx d_M_objection_161 (tgt := 165) rfl ?_
                    exact gj_iretR (pc := 165) cx hr hlk d_M_objection_165 (by rw [rObj_kbq hn hk hb hq1 hq5, rOb0, if_neg (by rw [hwf]; decide), if_neg, if_neg, if_neg] <;> first | rfl | omega | (rw [if_pos] <;> first | assumption | omega))
                · refine gj_aload_n (pc := 119) cx d_M_objection_119 rfl (x := am 0) rfl ?_
                  refine gj_get (pc := 120) (ci := 2) (C := R_M) (T := T_M) (N := 15) (v := .ref (am 5)) cx hK gj_rP in_M d_M_objection_120 0 rfl rfl 7 (by decide) (in_WT wm_348) rfl ?_
                  refine gj_iload_n (pc := 123) cx d_M_objection_123 rfl (x := nI x) rfl ?_
                  refine gj_iload (pc := 124) cx d_M_objection_124 (x := nI b) rfl ?_
                  refine gj_iload (pc := 126) cx d_M_objection_126 (x := nI q) rfl ?_
                  refine gj_callSRi (pc := 128) (As := [.int (nI x), .int (nI b), .int (nI q)]) (rest := [.ref (am 5)]) (v := nI ((x * 7 + b) * 5 + q - 1)) cx hK (c_M_at l D (tyl cI cJ) x b q (by omega)) (va_cwS 3 cx.2.2.2.2 (good_S wm_399 wm_397 wm_398 wm_5) rfl rfl rfl (by decide +kernel) ⟨Nat.le_of_ble_eq_true rfl, Nat.le_of_ble_eq_true rfl⟩) (fun _ _ _ => gj_P0) rfl rfl (Nat.le_of_ble_eq_true rfl) d_M_objection_128 ⟨Nat.zero_le _, Nat.zero_le _⟩ ?_
                  refine gj_lald (pc := 131) (i := (x * 7 + b) * 5 + q - 1) (f := rEc S) cx hK gj_rP d_M_objection_131 5 1 rfl rfl (by omega) (by decide) ?_
                  refine gj_goto (pc := 132) cx d_M_objection_132 (tgt := 150) rfl ?_
                  refine gj_lstore (pc := 150) cx d_M_objection_150 (lo' := [(8, .long (rEc S ((x * 7 + b) * 5 + q - 1))), (0, .ref (am 0)), (1, .int (nI x)), (2, .int (nI y)), (3, .int (nI k)), (4, .int (nI b)), (5, .int (nI q)), (6, .long pp)]) (by decide) rfl ?_
                  refine gj_lload (pc := 152) cx d_M_objection_152 (x := rEc S ((x * 7 + b) * 5 + q - 1)) rfl ?_
                  refine gj_lconst (pc := 154) cx d_M_objection_154 (v := 0) (by decide) ?_
                  refine gj_lcmp_eq (pc := 155) cx d_M_objection_155 d_M_objection_156 (tgt := 164) rfl (fun hb16 => ?_) (fun hb16 => ?_)
                  · refine gj_iconst (pc := 164) cx d_M_objection_164 (v := nI 0) (by decide) ?_
                    exact gj_iretR (pc := 165) cx hr hlk d_M_objection_165 (by rw [rObj_kbq hn hk hb hq1 hq5, rOb0, if_neg (by rw [hwf]; decide), if_neg, if_neg, if_pos] <;> first | rfl | omega | (rw [if_pos] <;> first | assumption | omega))
                  · refine gj_bipush (pc := 159) cx d_M_objection_159 (v := (-6)) (by decide) ?_
                    refine gj_goto (pc := 161) cx d_M_objection_161 (tgt := 165) rfl ?_
                    exact gj_iretR (pc := 165) cx hr hlk d_M_objection_165 (by rw [rObj_kbq hn hk hb hq1 hq5, rOb0, if_neg (by rw [hwf]; decide), if_neg, if_neg, if_neg] <;> first | rfl | omega | (rw [if_pos] <;> first | assumption | omega))
              · refine gj_bipush (pc := 112) cx d_M_objection_112 (v := (-5)) (by decide) ?_
                exact gj_iretR (pc := 114) cx hr hlk d_M_objection_114 (by rw [rObj_kbq hn hk hb hq1 hq5, rOb0, if_neg (by rw [hwf]; decide), if_neg, if_pos] <;> first | rfl | assumption | omega)
            · refine gj_bipush (pc := 92) cx d_M_objection_92 (v := (-4)) (by decide) ?_
              exact gj_iretR (pc := 94) cx hr hlk d_M_objection_94 (by rw [rObj_kbq hn hk hb hq1 hq5, rOb0, if_neg (by rw [hwf]; decide), if_pos] <;> first | rfl | assumption | omega)
        · refine gj_bipush (pc := 79) cx d_M_objection_79 (v := (-3)) (by decide) ?_
          exact gj_iretR (pc := 81) cx hr hlk d_M_objection_81 (by rw [rObj_wf hn hb3 hb1 (Int32.not_lt.mpr hb2) hb4])
      · refine gj_iload (pc := 17) cx d_M_objection_17 (x := bd) rfl ?_
        refine gj_if_ne (pc := 19) cx d_M_objection_19 (tgt := 36) rfl (fun hb17 => ?_) (fun hb17 => ?_)
        · refine gj_bipush (pc := 36) cx d_M_objection_36 (v := (-3)) (by decide) ?_
          exact gj_iretR (pc := 38) cx hr hlk d_M_objection_38 (by rw [rObj_none (tpc_4a hb3 hb17)])
        · refine gj_iload (pc := 22) cx d_M_objection_22 (x := qd) rfl ?_
          refine gj_if_ne (pc := 24) cx d_M_objection_24 (tgt := 36) rfl (fun hb18 => ?_) (fun hb18 => ?_)
          · refine gj_bipush (pc := 36) cx d_M_objection_36 (v := (-3)) (by decide) ?_
            exact gj_iretR (pc := 38) cx hr hlk d_M_objection_38 (by rw [rObj_none (tpc_4b hb3 hb18)])
          · refine gj_aload_n (pc := 27) cx d_M_objection_27 rfl (x := am 0) rfl ?_
            refine gj_lload (pc := 28) cx d_M_objection_28 (x := pp) rfl ?_
            refine gj_callVRi (pc := 30) (As := [.long pp]) (rest := []) (v := bI (isMk pp n)) cx hK (c_M_isMark l D cI cJ am n f z S pp (by omega)) (cwV 1 cx.2.2.2.2 (good_V wm_408 wm_406 wm_407 wm_561 wm_5) rfl rfl rfl (by decide +kernel) ⟨Nat.le_of_ble_eq_true rfl, Nat.le_of_ble_eq_true rfl⟩) gj_rP 0 2 rfl rfl rfl rfl rfl (Nat.le_of_ble_eq_true rfl) d_M_objection_30 ⟨Nat.zero_le _, Nat.zero_le _⟩ ?_
            refine gj_if_neB (pc := 33) cx d_M_objection_33 (tgt := 39) rfl (fun hb19 => ?_) (fun hb19 => ?_)
            · refine gj_aload_n (pc := 39) cx d_M_objection_39 rfl (x := am 0) rfl ?_
              refine gj_get (pc := 40) (ci := 2) (C := R_M) (T := T_M) (N := 15) (v := .ref (am 11)) cx hK gj_rP in_M d_M_objection_40 0 rfl rfl 13 (by decide) (in_WT wm_354) rfl ?_
              refine gj_bipush (pc := 43) cx d_M_objection_43 (v := nI 7) (by decide) ?_
              refine gj_iload_n (pc := 45) cx d_M_objection_45 rfl (x := nI x) rfl ?_
              refine gj_imulN (pc := 46) cx d_M_objection_46 ?_
              refine gj_iload_n (pc := 47) cx d_M_objection_47 rfl (x := nI y) rfl ?_
              refine gj_iaddN (pc := 48) cx d_M_objection_48 ?_
              refine gj_ialdN (pc := 49) (i := (7 * x) + y) (f := rHm S) cx hK gj_rP d_M_objection_49 11 0 rfl rfl (by omega) (by decide) ?_
              have hv20 := hok.2.2.2.2.2 ((7 * x) + y)
              refine gj_i2l (pc := 50) cx d_M_objection_50 rfl ?_
              refine gj_tol (y := lN (rHm S (7 * x + y))) (nI_l (by omega)) ?_
              refine gj_lload (pc := 51) cx d_M_objection_51 (x := pp) rfl ?_
              refine gj_lconst (pc := 53) cx d_M_objection_53 (v := 1) (by decide) ?_
              refine gj_ladd (pc := 54) cx d_M_objection_54 ?_
              refine gj_lcmp_ne (pc := 55) cx d_M_objection_55 d_M_objection_56 (tgt := 64) rfl (fun hb21 => ?_) (fun hb21 => ?_)
              · refine gj_iconst (pc := 64) cx d_M_objection_64 (v := nI 0) (by decide) ?_
                exact gj_iretR (pc := 65) cx hr hlk d_M_objection_65 (by rw [rObj_4 hb3 hb17 hb18, if_neg (by rw [hb19]; decide), if_neg hb21] <;> rfl)
              · refine gj_bipush (pc := 59) cx d_M_objection_59 (v := (-6)) (by decide) ?_
                refine gj_goto (pc := 61) cx d_M_objection_61 (tgt := 65) rfl ?_
                exact gj_iretR (pc := 65) cx hr hlk d_M_objection_65 (by rw [rObj_4 hb3 hb17 hb18, if_neg (by rw [hb19]; decide), if_pos hb21] <;> rfl)
            · refine gj_bipush (pc := 36) cx d_M_objection_36 (v := (-3)) (by decide) ?_
              exact gj_iretR (pc := 38) cx hr hlk d_M_objection_38 (by rw [rObj_4 hb3 hb17 hb18, if_pos hb19])
    · refine gj_bipush (pc := 9) cx d_M_objection_9 (v := (-3)) (by decide) ?_
      exact gj_iretR (pc := 11) cx hr hlk d_M_objection_11 (by rw [rObj_none (tpc_big (Int32.not_le.mp hb2))])

set_option maxRecDepth 100000 in
set_option maxHeartbeats 4000000 in
theorem c_M_many (l : Launch) (D : va_G) (cI cJ : ClassId) (am : Nat → Nat) (n f : Nat) (z : Int64) (S : RS) (x : Nat) (k : Nat) (b : Nat) (q : Nat) (pp : Int64) (hn : n ≤ 7) (hx : x < 7) (hk1 : 1 ≤ k) (hk : k ≤ 3) (hb : b < 7) (hq1 : 1 ≤ q) (hq5 : q ≤ 5) : MRi l y_M_many (wsM y_M_many b_M_many 9 (some .int)) { frames := 1, cells := 0, slots := 0, locals := 24 } D vwK (tyl cI cJ) (rW cI cJ am n f z S) [.ref (am 0), .int (nI x), .int (nI k), .int (nI b), .int (nI q), .long pp] (nI (rMany S n x k b q pp)) := by
  refine gj_enterR (own := R_M) (by decide) rfl (Nat.le_of_ble_eq_true rfl) rfl rfl (fun p e s m below meth c cx hr hlk hK => ?_)
  refine gj_iconst (pc := 0) cx d_M_many_0 (v := nI 0) (by decide) ?_
  refine gj_istore (pc := 1) cx d_M_many_1 (lo' := [(7, .int (nI 0)), (0, .ref (am 0)), (1, .int (nI x)), (2, .int (nI k)), (3, .int (nI b)), (4, .int (nI q)), (5, .long pp)]) (by decide) rfl ?_
  refine gj_iconst (pc := 3) cx d_M_many_3 (v := nI 0) (by decide) ?_
  refine gj_istore (pc := 4) cx d_M_many_4 (lo' := [(8, .int (nI 0)), (7, .int (nI 0)), (0, .ref (am 0)), (1, .int (nI x)), (2, .int (nI k)), (3, .int (nI b)), (4, .int (nI q)), (5, .long pp)]) (by decide) rfl ?_
  refine gj_pick (lo' := [(0, .ref (am 0)), (1, .int (nI x)), (2, .int (nI k)), (3, .int (nI b)), (4, .int (nI q)), (5, .long pp), (7, .int (nI 0)), (8, .int (nI 0))]) [2, 3, 4, 5, 6, 7, 1, 0] rfl ?_
  refine gj_forG (G := Gj p l e _ s m _ below meth c _ _ _ _ _) n 6 (fun i => [(0, .ref (am 0)), (1, .int (nI x)), (2, .int (nI k)), (3, .int (nI b)), (4, .int (nI q)), (5, .long pp), (7, .int (nI (cntB (fun y => decide (rHe S (((x * 3 + k - 1) * 35 + b * 5 + q - 1) * 7 + y) = pp)) i))), (8, .int (nI i))]) (fun i => rW cI cJ am n f z S) (fun i hi ihi => ?_) 0 (by omega)
  refine gj_iload (pc := 6) cx d_M_many_6 (x := nI i) rfl ?_
  refine gj_aload_n (pc := 8) cx d_M_many_8 rfl (x := am 0) rfl ?_
  refine gj_get (pc := 9) (ci := 2) (C := R_M) (T := T_M) (N := 15) (v := .int (nI n)) cx hK gj_rP in_M d_M_many_9 0 rfl rfl 0 (by decide) (in_WT wm_341) rfl ?_
  refine gj_icmp_geN (pc := 12) cx d_M_many_12 (tgt := 45) rfl (by omega) (by omega) (fun hb1 => ?_) (fun hb1 => ?_)
  · refine gj_iload (pc := 45) cx d_M_many_45 (x := nI (cntB (fun y => decide (rHe S (((x * 3 + k - 1) * 35 + b * 5 + q - 1) * 7 + y) = pp)) i)) rfl ?_
    exact gj_iretR (pc := 47) cx hr hlk d_M_many_47 (by rw [show i = n from (by omega)]; rfl)
  · refine gj_aload_n (pc := 15) cx d_M_many_15 rfl (x := am 0) rfl ?_
    refine gj_get (pc := 16) (ci := 2) (C := R_M) (T := T_M) (N := 15) (v := .ref (am 10)) cx hK gj_rP in_M d_M_many_16 0 rfl rfl 12 (by decide) (in_WT wm_353) rfl ?_
    refine gj_iload_n (pc := 19) cx d_M_many_19 rfl (x := nI x) rfl ?_
    refine gj_iload_n (pc := 20) cx d_M_many_20 rfl (x := nI k) rfl ?_
    refine gj_iload_n (pc := 21) cx d_M_many_21 rfl (x := nI b) rfl ?_
    refine gj_iload (pc := 22) cx d_M_many_22 (x := nI q) rfl ?_
    refine gj_iload (pc := 24) cx d_M_many_24 (x := nI i) rfl ?_
    refine gj_callSRi (pc := 26) (As := [.int (nI x), .int (nI k), .int (nI b), .int (nI q), .int (nI i)]) (rest := [.ref (am 10)]) (v := nI (((x * 3 + k - 1) * 35 + b * 5 + q - 1) * 7 + i)) cx hK (c_M_ear l D (tyl cI cJ) x k b q i (by omega) (by omega)) (va_cwS 5 cx.2.2.2.2 (good_S wm_427 wm_425 wm_426 wm_5) rfl rfl rfl (by decide +kernel) ⟨Nat.le_of_ble_eq_true rfl, Nat.le_of_ble_eq_true rfl⟩) (fun _ _ _ => gj_P0) rfl rfl (Nat.le_of_ble_eq_true rfl) d_M_many_26 ⟨Nat.zero_le _, Nat.zero_le _⟩ ?_
    refine gj_lald (pc := 29) (i := ((x * 3 + k - 1) * 35 + b * 5 + q - 1) * 7 + i) (f := rHe S) cx hK gj_rP d_M_many_29 10 1 rfl rfl (by omega) (by decide) ?_
    refine gj_lload (pc := 30) cx d_M_many_30 (x := pp) rfl ?_
    refine gj_lcmp_ne (pc := 32) cx d_M_many_32 d_M_many_33 (tgt := 39) rfl (fun hb2 => ?_) (fun hb2 => ?_)
    · refine gj_iincN (pc := 39) cx d_M_many_39 (k := 7) (d := 1) (lo' := [(8, .int (nI (i + 1))), (0, .ref (am 0)), (1, .int (nI x)), (2, .int (nI k)), (3, .int (nI b)), (4, .int (nI q)), (5, .long pp), (7, .int (nI (cntB (fun y => decide (rHe S (((x * 3 + k - 1) * 35 + b * 5 + q - 1) * 7 + y) = pp)) i)))]) rfl (by decide) (by decide) rfl ?_
      refine gj_goto (pc := 42) cx d_M_many_42 (tgt := 6) rfl ?_
      refine gj_pick (lo' := [(0, .ref (am 0)), (1, .int (nI x)), (2, .int (nI k)), (3, .int (nI b)), (4, .int (nI q)), (5, .long pp), (7, .int (nI (cntB (fun y => decide (rHe S (((x * 3 + k - 1) * 35 + b * 5 + q - 1) * 7 + y) = pp)) i))), (8, .int (nI (i + 1)))]) [1, 2, 3, 4, 5, 6, 7, 0] rfl ?_
      exact gj_eq rfl (by simp [cntB, hb1, hb2]) rfl (rfl) (ihi (by omega))
    · refine gj_iincN (pc := 36) cx d_M_many_36 (k := 6) (d := 1) (lo' := [(7, .int (nI ((cntB (fun y => decide (rHe S (((x * 3 + k - 1) * 35 + b * 5 + q - 1) * 7 + y) = pp)) i) + 1))), (0, .ref (am 0)), (1, .int (nI x)), (2, .int (nI k)), (3, .int (nI b)), (4, .int (nI q)), (5, .long pp), (8, .int (nI i))]) rfl (by decide) (by decide) rfl ?_
      refine gj_iincN (pc := 39) cx d_M_many_39 (k := 7) (d := 1) (lo' := [(8, .int (nI (i + 1))), (7, .int (nI ((cntB (fun y => decide (rHe S (((x * 3 + k - 1) * 35 + b * 5 + q - 1) * 7 + y) = pp)) i) + 1))), (0, .ref (am 0)), (1, .int (nI x)), (2, .int (nI k)), (3, .int (nI b)), (4, .int (nI q)), (5, .long pp)]) rfl (by decide) (by decide) rfl ?_
      refine gj_goto (pc := 42) cx d_M_many_42 (tgt := 6) rfl ?_
      refine gj_pick (lo' := [(0, .ref (am 0)), (1, .int (nI x)), (2, .int (nI k)), (3, .int (nI b)), (4, .int (nI q)), (5, .long pp), (7, .int (nI ((cntB (fun y => decide (rHe S (((x * 3 + k - 1) * 35 + b * 5 + q - 1) * 7 + y) = pp)) i) + 1))), (8, .int (nI (i + 1)))]) [2, 3, 4, 5, 6, 7, 1, 0] rfl ?_
      exact gj_eq rfl (by simp [cntB, hb1, hb2]) rfl (rfl) (ihi (by omega))

set_option maxRecDepth 100000 in
set_option maxHeartbeats 4000000 in
theorem c_M_forget (l : Launch) (D : va_G) (cI cJ : ClassId) (am : Nat → Nat) (n f : Nat) (z : Int64) (S : RS) (x : Nat) (b : Nat) (q : Nat) (hn : n ≤ 7) (hx : x < 7) (hb : b < 7) (hq1 : 1 ≤ q) (hq5 : q ≤ 5) (sz : Nat) : MWv l y_M_forget (wsM y_M_forget b_M_forget 6 none) { frames := 1, cells := 0, slots := 0, locals := 24 } D vwK (tyl cI cJ) (rW cI cJ am n f z S) (rW cI cJ am n f z (rForget S n x b q)) sz [.ref (am 0), .int (nI x), .int (nI b), .int (nI q)] := by
  refine gj_enterW (own := R_M) (by decide) rfl (Nat.le_of_ble_eq_true rfl) rfl rfl (fun p e s m below meth c cx hr hlk hK hsz => ?_)
  have hA : ∀ q, s.heap.size ≤ q → va_A (rW cI cJ am n f z S) sz q := fun q h => Or.inr (hsz ▸ h)
  refine gj_aload_n (pc := 0) cx d_M_forget_0 rfl (x := am 0) rfl ?_
  refine gj_get (pc := 1) (ci := 2) (C := R_M) (T := T_M) (N := 15) (v := .ref (am 5)) cx hK gj_wP in_M d_M_forget_1 0 rfl rfl 7 (by decide) (in_WT wm_348) rfl ?_
  refine gj_iload_n (pc := 4) cx d_M_forget_4 rfl (x := nI x) rfl ?_
  refine gj_iload_n (pc := 5) cx d_M_forget_5 rfl (x := nI b) rfl ?_
  refine gj_iload_n (pc := 6) cx d_M_forget_6 rfl (x := nI q) rfl ?_
  refine gj_callSRi (pc := 7) (As := [.int (nI x), .int (nI b), .int (nI q)]) (rest := [.ref (am 5)]) (v := nI ((x * 7 + b) * 5 + q - 1)) cx hK (c_M_at l D (tyl cI cJ) x b q (by omega)) (va_cwS 3 cx.2.2.2.2 (good_S wm_399 wm_397 wm_398 wm_5) rfl rfl rfl (by decide +kernel) ⟨Nat.le_of_ble_eq_true rfl, Nat.le_of_ble_eq_true rfl⟩) (fun _ _ _ => gj_P0) rfl rfl (Nat.le_of_ble_eq_true rfl) d_M_forget_7 ⟨Nat.zero_le _, Nat.zero_le _⟩ ?_
  refine gj_lconst (pc := 10) cx d_M_forget_10 (v := 0) (by decide) ?_
  refine gj_last (pc := 11) (i := (x * 7 + b) * 5 + q - 1) (f := rEc S) (x := 0) (ws' := rW cI cJ am n f z (rSt S, rFu S, rSu S, rOw S, va_up (rEc S) ((x * 7 + b) * 5 + q - 1) 0, rRe S, rAp S, rFr S, rMa S, rHe S, rHm S, rAc S)) cx hK d_M_forget_11 5 1 rfl rfl (by omega) (by decide) rfl ?_
  refine gj_aload_n (pc := 12) cx d_M_forget_12 rfl (x := am 0) rfl ?_
  refine gj_get (pc := 13) (ci := 2) (C := R_M) (T := T_M) (N := 15) (v := .ref (am 6)) cx hK gj_wP in_M d_M_forget_13 0 rfl rfl 8 (by decide) (in_WT wm_349) rfl ?_
  refine gj_iload_n (pc := 16) cx d_M_forget_16 rfl (x := nI x) rfl ?_
  refine gj_iload_n (pc := 17) cx d_M_forget_17 rfl (x := nI b) rfl ?_
  refine gj_iload_n (pc := 18) cx d_M_forget_18 rfl (x := nI q) rfl ?_
  refine gj_callSRi (pc := 19) (As := [.int (nI x), .int (nI b), .int (nI q)]) (rest := [.ref (am 6)]) (v := nI ((x * 7 + b) * 5 + q - 1)) cx hK (c_M_at l D (tyl cI cJ) x b q (by omega)) (va_cwS 3 cx.2.2.2.2 (good_S wm_399 wm_397 wm_398 wm_5) rfl rfl rfl (by decide +kernel) ⟨Nat.le_of_ble_eq_true rfl, Nat.le_of_ble_eq_true rfl⟩) (fun _ _ _ => gj_P0) rfl rfl (Nat.le_of_ble_eq_true rfl) d_M_forget_19 ⟨Nat.zero_le _, Nat.zero_le _⟩ ?_
  refine gj_lconst (pc := 22) cx d_M_forget_22 (v := 0) (by decide) ?_
  refine gj_last (pc := 23) (i := (x * 7 + b) * 5 + q - 1) (f := rRe S) (x := 0) (ws' := rW cI cJ am n f z (rSt S, rFu S, rSu S, rOw S, va_up (rEc S) ((x * 7 + b) * 5 + q - 1) 0, va_up (rRe S) ((x * 7 + b) * 5 + q - 1) 0, rAp S, rFr S, rMa S, rHe S, rHm S, rAc S)) cx hK d_M_forget_23 6 1 rfl rfl (by omega) (by decide) rfl ?_
  refine gj_iconst (pc := 24) cx d_M_forget_24 (v := nI 1) (by decide) ?_
  refine gj_istore (pc := 25) cx d_M_forget_25 (lo' := [(4, .int (nI 1)), (0, .ref (am 0)), (1, .int (nI x)), (2, .int (nI b)), (3, .int (nI q))]) (by decide) rfl ?_
  refine gj_eq (w' := rW cI cJ am n f z (rSt S, rFu S, rSu S, rOw S, va_up (rEc S) ((x * 7 + b) * 5 + q - 1) 0, va_up (rRe S) ((x * 7 + b) * 5 + q - 1) 0, rAp S, rFr S, rMa S, fgH S n x (b * 5 + q - 1) 1 0, rHm S, rAc S)) rfl rfl rfl (by rw [fgH_0]) ?_
  refine gj_pick (lo' := [(0, .ref (am 0)), (1, .int (nI x)), (2, .int (nI b)), (3, .int (nI q)), (4, .int (nI 1))]) [1, 2, 3, 4, 0] rfl ?_
  refine gj_forH (G := Gj p l e _ s m _ below meth c _ _ _ _ _) (fun g => 1 ≤ g) 4 27 (fun g => [(0, .ref (am 0)), (1, .int (nI x)), (2, .int (nI b)), (3, .int (nI q)), (4, .int (nI g))]) (fun g => rW cI cJ am n f z (rSt S, rFu S, rSu S, rOw S, va_up (rEc S) ((x * 7 + b) * 5 + q - 1) 0, va_up (rRe S) ((x * 7 + b) * 5 + q - 1) 0, rAp S, rFr S, rMa S, fgH S n x (b * 5 + q - 1) g 0, rHm S, rAc S)) (fun g hg ihg qg => ?_) 1 (by omega) (by omega)
  refine gj_iload (pc := 27) cx d_M_forget_27 (x := nI g) rfl ?_
  refine gj_iconst (pc := 29) cx d_M_forget_29 (v := nI 3) (by decide) ?_
  refine gj_icmp_gtN (pc := 30) cx d_M_forget_30 (tgt := 73) rfl (by omega) (by omega) (fun hb1 => ?_) (fun hb1 => ?_)
  · exact gj_vretW (pc := 73) cx hr hlk d_M_forget_73 (by rw [show g = 4 from (by omega)]; rfl)
  · refine gj_iconst (pc := 33) cx d_M_forget_33 (v := nI 0) (by decide) ?_
    refine gj_istore (pc := 34) cx d_M_forget_34 (lo' := [(5, .int (nI 0)), (0, .ref (am 0)), (1, .int (nI x)), (2, .int (nI b)), (3, .int (nI q)), (4, .int (nI g))]) (by decide) rfl ?_
    refine gj_pick (lo' := [(0, .ref (am 0)), (1, .int (nI x)), (2, .int (nI b)), (3, .int (nI q)), (4, .int (nI g)), (5, .int (nI 0))]) [1, 2, 3, 4, 5, 0] rfl ?_
    refine gj_forG (G := Gj p l e _ s m _ below meth c _ _ _ _ _) n 36 (fun y => [(0, .ref (am 0)), (1, .int (nI x)), (2, .int (nI b)), (3, .int (nI q)), (4, .int (nI g)), (5, .int (nI y))]) (fun y => rW cI cJ am n f z (rSt S, rFu S, rSu S, rOw S, va_up (rEc S) ((x * 7 + b) * 5 + q - 1) 0, va_up (rRe S) ((x * 7 + b) * 5 + q - 1) 0, rAp S, rFr S, rMa S, fgH S n x (b * 5 + q - 1) g y, rHm S, rAc S)) (fun y hy ihy => ?_) 0 (by omega)
    refine gj_iload (pc := 36) cx d_M_forget_36 (x := nI y) rfl ?_
    refine gj_aload_n (pc := 38) cx d_M_forget_38 rfl (x := am 0) rfl ?_
    refine gj_get (pc := 39) (ci := 2) (C := R_M) (T := T_M) (N := 15) (v := .int (nI n)) cx hK gj_wP in_M d_M_forget_39 0 rfl rfl 0 (by decide) (in_WT wm_341) rfl ?_
    refine gj_icmp_geN (pc := 42) cx d_M_forget_42 (tgt := 67) rfl (by omega) (by omega) (fun hb2 => ?_) (fun hb2 => ?_)
    · refine gj_iincN (pc := 67) cx d_M_forget_67 (k := 4) (d := 1) (lo' := [(4, .int (nI (g + 1))), (0, .ref (am 0)), (1, .int (nI x)), (2, .int (nI b)), (3, .int (nI q)), (5, .int (nI y))]) rfl (by decide) (by decide) rfl ?_
      refine gj_goto (pc := 70) cx d_M_forget_70 (tgt := 27) rfl ?_
      refine gj_pick (lo' := [(0, .ref (am 0)), (1, .int (nI x)), (2, .int (nI b)), (3, .int (nI q)), (4, .int (nI (g + 1)))]) [1, 2, 3, 4, 0] rfl ?_
      exact gj_eq rfl (rfl) rfl (by rw [← fgH_row, show y = n from (by omega)]) (ihg (by omega) (by omega))
    · refine gj_aload_n (pc := 45) cx d_M_forget_45 rfl (x := am 0) rfl ?_
      refine gj_get (pc := 46) (ci := 2) (C := R_M) (T := T_M) (N := 15) (v := .ref (am 10)) cx hK gj_wP in_M d_M_forget_46 0 rfl rfl 12 (by decide) (in_WT wm_353) rfl ?_
      refine gj_iload_n (pc := 49) cx d_M_forget_49 rfl (x := nI x) rfl ?_
      refine gj_iload (pc := 50) cx d_M_forget_50 (x := nI g) rfl ?_
      refine gj_iload_n (pc := 52) cx d_M_forget_52 rfl (x := nI b) rfl ?_
      refine gj_iload_n (pc := 53) cx d_M_forget_53 rfl (x := nI q) rfl ?_
      refine gj_iload (pc := 54) cx d_M_forget_54 (x := nI y) rfl ?_
      refine gj_callSRi (pc := 56) (As := [.int (nI x), .int (nI g), .int (nI b), .int (nI q), .int (nI y)]) (rest := [.ref (am 10)]) (v := nI (((x * 3 + g - 1) * 35 + b * 5 + q - 1) * 7 + y)) cx hK (c_M_ear l D (tyl cI cJ) x g b q y (by omega) (by omega)) (va_cwS 5 cx.2.2.2.2 (good_S wm_427 wm_425 wm_426 wm_5) rfl rfl rfl (by decide +kernel) ⟨Nat.le_of_ble_eq_true rfl, Nat.le_of_ble_eq_true rfl⟩) (fun _ _ _ => gj_P0) rfl rfl (Nat.le_of_ble_eq_true rfl) d_M_forget_56 ⟨Nat.zero_le _, Nat.zero_le _⟩ ?_
      refine gj_lconst (pc := 59) cx d_M_forget_59 (v := 0) (by decide) ?_
      refine gj_last (pc := 60) (i := ((x * 3 + g - 1) * 35 + b * 5 + q - 1) * 7 + y) (f := fgH S n x (b * 5 + q - 1) g y) (x := 0) (ws' := rW cI cJ am n f z (rSt S, rFu S, rSu S, rOw S, va_up (rEc S) ((x * 7 + b) * 5 + q - 1) 0, va_up (rRe S) ((x * 7 + b) * 5 + q - 1) 0, rAp S, rFr S, rMa S, va_up (fgH S n x (b * 5 + q - 1) g y) (((x * 3 + g - 1) * 35 + b * 5 + q - 1) * 7 + y) 0, rHm S, rAc S)) cx hK d_M_forget_60 10 1 rfl rfl (by omega) (by decide) rfl ?_
      refine gj_iincN (pc := 61) cx d_M_forget_61 (k := 5) (d := 1) (lo' := [(5, .int (nI (y + 1))), (0, .ref (am 0)), (1, .int (nI x)), (2, .int (nI b)), (3, .int (nI q)), (4, .int (nI g))]) rfl (by decide) (by decide) rfl ?_
      refine gj_goto (pc := 64) cx d_M_forget_64 (tgt := 36) rfl ?_
      refine gj_pick (lo' := [(0, .ref (am 0)), (1, .int (nI x)), (2, .int (nI b)), (3, .int (nI q)), (4, .int (nI g)), (5, .int (nI (y + 1)))]) [1, 2, 3, 4, 5, 0] rfl ?_
      exact gj_eq rfl (rfl) rfl (by rw [fgH_up (by omega) hq1 (by omega) (by omega) (by omega)]) (ihy (by omega))

set_option maxRecDepth 100000 in
set_option maxHeartbeats 4000000 in
theorem c_M_release (l : Launch) (D : va_G) (cI cJ : ClassId) (am : Nat → Nat) (n f : Nat) (z : Int64) (S : RS) (x : Nat) (hn : n ≤ 7) (hok : rOk S) (hx : x < 7) (hf : f ≤ 7) (hmk : rMa S x = 0 ∨ ∀ b, b < n → rDg (rMa S x - 1) b ≤ 5) (sz : Nat) : MWv l y_M_release (wsM y_M_release b_M_release 6 none) { frames := 2, cells := 0, slots := 0, locals := 49 } D vwK (tyl cI cJ) (rW cI cJ am n f z S) (rW cI cJ am n f z (rRel S n f x)) sz [.ref (am 0), .int (nI x)] := by
  refine gj_enterW (own := R_M) (by decide) rfl (Nat.le_of_ble_eq_true rfl) rfl rfl (fun p e s m below meth c cx hr hlk hK hsz => ?_)
  have hA : ∀ q, s.heap.size ≤ q → va_A (rW cI cJ am n f z S) sz q := fun q h => Or.inr (hsz ▸ h)
  refine gj_iconst (pc := 0) cx d_M_release_0 (v := nI 0) (by decide) ?_
  refine gj_istore_n (pc := 1) cx d_M_release_1 rfl (lo' := [(2, .int (nI 0)), (0, .ref (am 0)), (1, .int (nI x))]) (by decide) rfl ?_
  refine gj_iconst (pc := 2) cx d_M_release_2 (v := nI 0) (by decide) ?_
  refine gj_istore_n (pc := 3) cx d_M_release_3 rfl (lo' := [(3, .int (nI 0)), (2, .int (nI 0)), (0, .ref (am 0)), (1, .int (nI x))]) (by decide) rfl ?_
  refine gj_pick (lo' := [(0, .ref (am 0)), (1, .int (nI x)), (2, .int (nI 0)), (3, .int (nI 0))]) [2, 3, 1, 0] rfl ?_
  refine gj_forG (G := Gj p l e _ s m _ below meth c _ _ _ _ _) n 4 (fun i => [(0, .ref (am 0)), (1, .int (nI x)), (2, .int (nI (cntB (fun y => decide (0 < rMa S x ∧ rHm S (7 * x + y) = rMa S x)) i))), (3, .int (nI i))]) (fun i => rW cI cJ am n f z S) (fun i hi ihi => ?_) 0 (by omega)
  refine gj_iload_n (pc := 4) cx d_M_release_4 rfl (x := nI i) rfl ?_
  refine gj_aload_n (pc := 5) cx d_M_release_5 rfl (x := am 0) rfl ?_
  refine gj_get (pc := 6) (ci := 2) (C := R_M) (T := T_M) (N := 15) (v := .int (nI n)) cx hK gj_wP in_M d_M_release_6 0 rfl rfl 0 (by decide) (in_WT wm_341) rfl ?_
  refine gj_icmp_geN (pc := 9) cx d_M_release_9 (tgt := 50) rfl (by omega) (by omega) (fun hb1 => ?_) (fun hb1 => ?_)
  · refine gj_iload_n (pc := 50) cx d_M_release_50 rfl (x := nI (cntB (fun y => decide (0 < rMa S x ∧ rHm S (7 * x + y) = rMa S x)) i)) rfl ?_
    refine gj_iconst (pc := 51) cx d_M_release_51 (v := nI 2) (by decide) ?_
    refine gj_aload_n (pc := 52) cx d_M_release_52 rfl (x := am 0) rfl ?_
    refine gj_get (pc := 53) (ci := 2) (C := R_M) (T := T_M) (N := 15) (v := .int (nI f)) cx hK gj_wP in_M d_M_release_53 0 rfl rfl 1 (by decide) (in_WT wm_342) rfl ?_
    refine gj_imulN (pc := 56) cx d_M_release_56 ?_
    refine gj_iconst (pc := 57) cx d_M_release_57 (v := nI 1) (by decide) ?_
    refine gj_iaddN (pc := 58) cx d_M_release_58 ?_
    refine gj_icmp_geN (pc := 59) cx d_M_release_59 (tgt := 63) rfl (by have := cntB_le (fun y => decide (0 < rMa S x ∧ rHm S (7 * x + y) = rMa S x)) i; omega) (by omega) (fun hb2 => ?_) (fun hb2 => ?_)
    · have hse : rSame S n x = cntB (fun y => decide (0 < rMa S x ∧ rHm S (7 * x + y) = rMa S x)) i := by rw [show i = n from (by omega)]; rfl
      have hpos : 0 < rMa S x := rSame_pos (n := n) (by omega)
      have hnl : ¬ rSame S n x < 2 * f + 1 := by omega
      have hmk2 := hmk.resolve_left (by omega)
      have hmax := hok.2.2.2.2.1 x
      refine gj_iconst (pc := 63) cx d_M_release_63 (v := nI 0) (by decide) ?_
      refine gj_istore_n (pc := 64) cx d_M_release_64 rfl (lo' := [(3, .int (nI 0)), (0, .ref (am 0)), (1, .int (nI x)), (2, .int (nI (cntB (fun y => decide (0 < rMa S x ∧ rHm S (7 * x + y) = rMa S x)) i)))]) (by decide) rfl ?_
      refine gj_pick (lo' := [(0, .ref (am 0)), (1, .int (nI x)), (3, .int (nI 0))]) [1, 2, 0] rfl ?_
      refine gj_forG (G := Gj p l e _ s m _ below meth c _ _ _ _ _) n 65 (fun b => [(0, .ref (am 0)), (1, .int (nI x)), (3, .int (nI b))]) (fun b => rW cI cJ am n f z (rFreeTo n x (rMa S x - 1) b S)) (fun b hb ihb => ?_) 0 (by omega)
      obtain ⟨X, hX⟩ : ∃ X, X = rFreeTo n x (rMa S x - 1) b S := ⟨_, rfl⟩
      rw [← hX]
      have hokX : rOk X := hX ▸ rOk_freeTo hok b (fun c hc => hmk2 c (by omega))
      have hXm : rMa X = rMa S := by rw [hX, rFreeTo_ma]
      refine gj_iload_n (pc := 65) cx d_M_release_65 rfl (x := nI b) rfl ?_
      refine gj_aload_n (pc := 66) cx d_M_release_66 rfl (x := am 0) rfl ?_
      refine gj_get (pc := 67) (ci := 2) (C := R_M) (T := T_M) (N := 15) (v := .int (nI n)) cx hK gj_wP in_M d_M_release_67 0 rfl rfl 0 (by decide) (in_WT wm_341) rfl ?_
      refine gj_icmp_geN (pc := 70) cx d_M_release_70 (tgt := 175) rfl (by omega) (by omega) (fun hb3 => ?_) (fun hb3 => ?_)
      · exact gj_vretW (pc := 175) cx hr hlk d_M_release_175 (by rw [rRel, if_neg hnl, hX, show b = n from (by omega)])
      · have hd5 := hmk2 b (by omega)
        refine gj_aload_n (pc := 73) cx d_M_release_73 rfl (x := am 0) rfl ?_
        refine gj_get (pc := 74) (ci := 2) (C := R_M) (T := T_M) (N := 15) (v := .ref (am 9)) cx hK gj_wP in_M d_M_release_74 0 rfl rfl 11 (by decide) (in_WT wm_352) rfl ?_
        refine gj_iload_n (pc := 77) cx d_M_release_77 rfl (x := nI x) rfl ?_
        refine gj_ialdN (pc := 78) (i := x) (f := rMa X) cx hK gj_wP d_M_release_78 9 0 rfl rfl (by omega) (by decide) ?_
        have hv4 := hokX.2.2.2.2.1 x
        refine gj_toi (y := nI (rMa S x)) (congrArg nI (congrFun hXm x)) ?_
        refine gj_iconst (pc := 79) cx d_M_release_79 (v := nI 1) (by decide) ?_
        refine gj_isubN (pc := 80) cx d_M_release_80 (by omega) ?_
        refine gj_iconst (pc := 81) cx d_M_release_81 (v := nI 3) (by decide) ?_
        refine gj_iload_n (pc := 82) cx d_M_release_82 rfl (x := nI b) rfl ?_
        refine gj_imulN (pc := 83) cx d_M_release_83 ?_
        refine gj_ishrN (pc := 84) cx d_M_release_84 (by omega) (by omega) ?_
        refine gj_bipush (pc := 85) cx d_M_release_85 (v := nI 7) (by decide) ?_
        refine gj_iand (pc := 87) cx d_M_release_87 ?_
        refine gj_toi (y := nI (rDg (rMa S x - 1) b)) (and_7 (Nat.lt_of_le_of_lt (Nat.div_le_self _ _) (by omega))) ?_
        refine gj_istore (pc := 88) cx d_M_release_88 (lo' := [(4, .int (nI (rDg (rMa S x - 1) b))), (0, .ref (am 0)), (1, .int (nI x)), (3, .int (nI b))]) (by decide) rfl ?_
        refine gj_aload_n (pc := 90) cx d_M_release_90 rfl (x := am 0) rfl ?_
        refine gj_get (pc := 91) (ci := 2) (C := R_M) (T := T_M) (N := 15) (v := .ref (am 8)) cx hK gj_wP in_M d_M_release_91 0 rfl rfl 10 (by decide) (in_WT wm_351) rfl ?_
        refine gj_bipush (pc := 94) cx d_M_release_94 (v := nI 7) (by decide) ?_
        refine gj_iload_n (pc := 96) cx d_M_release_96 rfl (x := nI x) rfl ?_
        refine gj_imulN (pc := 97) cx d_M_release_97 ?_
        refine gj_iload_n (pc := 98) cx d_M_release_98 rfl (x := nI b) rfl ?_
        refine gj_iaddN (pc := 99) cx d_M_release_99 ?_
        refine gj_ialdN (pc := 100) (i := (7 * x) + b) (f := rFr X) cx hK gj_wP d_M_release_100 8 0 rfl rfl (by omega) (by decide) ?_
        have hv5 := hokX.2.2.2.1 ((7 * x) + b)
        refine gj_iconst (pc := 101) cx d_M_release_101 (v := nI 1) (by decide) ?_
        refine gj_iaddN (pc := 102) cx d_M_release_102 ?_
        refine gj_istore (pc := 103) cx d_M_release_103 (lo' := [(5, .int (nI ((rFr X ((7 * x) + b)) + 1))), (4, .int (nI (rDg (rMa S x - 1) b))), (0, .ref (am 0)), (1, .int (nI x)), (3, .int (nI b))]) (by decide) rfl ?_
        refine gj_pick (lo' := [(0, .ref (am 0)), (1, .int (nI x)), (3, .int (nI b)), (4, .int (nI (rDg (rMa S x - 1) b))), (5, .int (nI ((rFr X ((7 * x) + b)) + 1)))]) [2, 3, 4, 1, 0] rfl ?_
        refine gj_forG (G := Gj p l e _ s m _ below meth c _ _ _ _ _) (rDg (rMa S x - 1) b - rFr X (7 * x + b)) 105 (fun j => [(0, .ref (am 0)), (1, .int (nI x)), (3, .int (nI b)), (4, .int (nI (rDg (rMa S x - 1) b))), (5, .int (nI (rFr X (7 * x + b) + 1 + j)))]) (fun j => rW cI cJ am n f z (rForgets n x b (rFr X (7 * x + b)) j X)) (fun j hj ihj => ?_) 0 (by omega)
        refine gj_iload (pc := 105) cx d_M_release_105 (x := nI (rFr X (7 * x + b) + 1 + j)) rfl ?_
        refine gj_iload (pc := 107) cx d_M_release_107 (x := nI (rDg (rMa S x - 1) b)) rfl ?_
        refine gj_icmp_gtN (pc := 109) cx d_M_release_109 (tgt := 126) rfl (by omega) (by omega) (fun hb6 => ?_) (fun hb6 => ?_)
        · have hj : j = rDg (rMa S x - 1) b - rFr X (7 * x + b) := by omega
          subst hj
          refine gj_aload_n (pc := 126) cx d_M_release_126 rfl (x := am 0) rfl ?_
          refine gj_get (pc := 127) (ci := 2) (C := R_M) (T := T_M) (N := 15) (v := .ref (am 8)) cx hK gj_wP in_M d_M_release_127 0 rfl rfl 10 (by decide) (in_WT wm_351) rfl ?_
          refine gj_bipush (pc := 130) cx d_M_release_130 (v := nI 7) (by decide) ?_
          refine gj_iload_n (pc := 132) cx d_M_release_132 rfl (x := nI x) rfl ?_
          refine gj_imulN (pc := 133) cx d_M_release_133 ?_
          refine gj_iload_n (pc := 134) cx d_M_release_134 rfl (x := nI b) rfl ?_
          refine gj_iaddN (pc := 135) cx d_M_release_135 ?_
          refine gj_iload (pc := 136) cx d_M_release_136 (x := nI (rDg (rMa S x - 1) b)) rfl ?_
          refine gj_aload_n (pc := 138) cx d_M_release_138 rfl (x := am 0) rfl ?_
          refine gj_get (pc := 139) (ci := 2) (C := R_M) (T := T_M) (N := 15) (v := .ref (am 8)) cx hK gj_wP in_M d_M_release_139 0 rfl rfl 10 (by decide) (in_WT wm_351) rfl ?_
          refine gj_bipush (pc := 142) cx d_M_release_142 (v := nI 7) (by decide) ?_
          refine gj_iload_n (pc := 144) cx d_M_release_144 rfl (x := nI x) rfl ?_
          refine gj_imulN (pc := 145) cx d_M_release_145 ?_
          refine gj_iload_n (pc := 146) cx d_M_release_146 rfl (x := nI b) rfl ?_
          refine gj_iaddN (pc := 147) cx d_M_release_147 ?_
          refine gj_ialdN (pc := 148) (i := (7 * x) + b) (f := rFr (rForgets n x b (rFr X (7 * x + b)) (rDg (rMa S x - 1) b - rFr X (7 * x + b)) X)) cx hK gj_wP d_M_release_148 8 0 rfl rfl (by omega) (by decide) ?_
          refine gj_toi (y := nI (rFr X (7 * x + b))) (congrArg nI (congrFun (rForgets_fr _ _) _)) ?_
          refine gj_icmp_leN (pc := 149) cx d_M_release_149 (tgt := 157) rfl (by omega) (by omega) (fun hb7 => ?_) (fun hb7 => ?_)
          · refine gj_aload_n (pc := 157) cx d_M_release_157 rfl (x := am 0) rfl ?_
            refine gj_get (pc := 158) (ci := 2) (C := R_M) (T := T_M) (N := 15) (v := .ref (am 8)) cx hK gj_wP in_M d_M_release_158 0 rfl rfl 10 (by decide) (in_WT wm_351) rfl ?_
            refine gj_bipush (pc := 161) cx d_M_release_161 (v := nI 7) (by decide) ?_
            refine gj_iload_n (pc := 163) cx d_M_release_163 rfl (x := nI x) rfl ?_
            refine gj_imulN (pc := 164) cx d_M_release_164 ?_
            refine gj_iload_n (pc := 165) cx d_M_release_165 rfl (x := nI b) rfl ?_
            refine gj_iaddN (pc := 166) cx d_M_release_166 ?_
            refine gj_ialdN (pc := 167) (i := (7 * x) + b) (f := rFr (rForgets n x b (rFr X (7 * x + b)) (rDg (rMa S x - 1) b - rFr X (7 * x + b)) X)) cx hK gj_wP d_M_release_167 8 0 rfl rfl (by omega) (by decide) ?_
            refine gj_toi (y := nI (rFr X (7 * x + b))) (congrArg nI (congrFun (rForgets_fr _ _) _)) ?_
            refine gj_toi (y := nI (max (rFr X (7 * x + b)) (rDg (rMa S x - 1) b))) (congrArg nI (by omega)) ?_
            refine gj_iastN (pc := 168) (i := (7 * x) + b) (f := rFr (rForgets n x b (rFr X (7 * x + b)) (rDg (rMa S x - 1) b - rFr X (7 * x + b)) X)) (x := max (rFr X (7 * x + b)) (rDg (rMa S x - 1) b)) (ws' := rW cI cJ am n f z (rSt (rForgets n x b (rFr X (7 * x + b)) (rDg (rMa S x - 1) b - rFr X (7 * x + b)) X), rFu (rForgets n x b (rFr X (7 * x + b)) (rDg (rMa S x - 1) b - rFr X (7 * x + b)) X), rSu (rForgets n x b (rFr X (7 * x + b)) (rDg (rMa S x - 1) b - rFr X (7 * x + b)) X), rOw (rForgets n x b (rFr X (7 * x + b)) (rDg (rMa S x - 1) b - rFr X (7 * x + b)) X), rEc (rForgets n x b (rFr X (7 * x + b)) (rDg (rMa S x - 1) b - rFr X (7 * x + b)) X), rRe (rForgets n x b (rFr X (7 * x + b)) (rDg (rMa S x - 1) b - rFr X (7 * x + b)) X), rAp (rForgets n x b (rFr X (7 * x + b)) (rDg (rMa S x - 1) b - rFr X (7 * x + b)) X), va_up (rFr (rForgets n x b (rFr X (7 * x + b)) (rDg (rMa S x - 1) b - rFr X (7 * x + b)) X)) ((7 * x) + b) (max (rFr X (7 * x + b)) (rDg (rMa S x - 1) b)), rMa (rForgets n x b (rFr X (7 * x + b)) (rDg (rMa S x - 1) b - rFr X (7 * x + b)) X), rHe (rForgets n x b (rFr X (7 * x + b)) (rDg (rMa S x - 1) b - rFr X (7 * x + b)) X), rHm (rForgets n x b (rFr X (7 * x + b)) (rDg (rMa S x - 1) b - rFr X (7 * x + b)) X), rAc (rForgets n x b (rFr X (7 * x + b)) (rDg (rMa S x - 1) b - rFr X (7 * x + b)) X))) cx hK d_M_release_168 8 0 rfl rfl (by omega) (by decide) rfl ?_
            refine gj_iincN (pc := 169) cx d_M_release_169 (k := 2) (d := 1) (lo' := [(3, .int (nI (b + 1))), (0, .ref (am 0)), (1, .int (nI x)), (4, .int (nI (rDg (rMa S x - 1) b))), (5, .int (nI (rFr X (7 * x + b) + 1 + (rDg (rMa S x - 1) b - rFr X (7 * x + b)))))]) rfl (by decide) (by decide) rfl ?_
            refine gj_goto (pc := 172) cx d_M_release_172 (tgt := 65) rfl ?_
            refine gj_pick (lo' := [(0, .ref (am 0)), (1, .int (nI x)), (3, .int (nI (b + 1)))]) [1, 2, 0] rfl ?_
            exact gj_eq rfl (rfl) rfl (by subst hX; rw [show rFreeTo n x (rMa S x - 1) (b + 1) S = rFreeC n x (rMa S x - 1) b (rFreeTo n x (rMa S x - 1) b S) from rfl, rFreeC_eq]) (ihb (by omega))
          · refine gj_iload (pc := 152) cx d_M_release_152 (x := nI (rDg (rMa S x - 1) b)) rfl ?_
            refine gj_goto (pc := 154) cx d_M_release_154 (tgt := 168) rfl ?_
            refine gj_toi (y := nI (max (rFr X (7 * x + b)) (rDg (rMa S x - 1) b))) (congrArg nI (by omega)) ?_
            refine gj_iastN (pc := 168) (i := (7 * x) + b) (f := rFr (rForgets n x b (rFr X (7 * x + b)) (rDg (rMa S x - 1) b - rFr X (7 * x + b)) X)) (x := max (rFr X (7 * x + b)) (rDg (rMa S x - 1) b)) (ws' := rW cI cJ am n f z (rSt (rForgets n x b (rFr X (7 * x + b)) (rDg (rMa S x - 1) b - rFr X (7 * x + b)) X), rFu (rForgets n x b (rFr X (7 * x + b)) (rDg (rMa S x - 1) b - rFr X (7 * x + b)) X), rSu (rForgets n x b (rFr X (7 * x + b)) (rDg (rMa S x - 1) b - rFr X (7 * x + b)) X), rOw (rForgets n x b (rFr X (7 * x + b)) (rDg (rMa S x - 1) b - rFr X (7 * x + b)) X), rEc (rForgets n x b (rFr X (7 * x + b)) (rDg (rMa S x - 1) b - rFr X (7 * x + b)) X), rRe (rForgets n x b (rFr X (7 * x + b)) (rDg (rMa S x - 1) b - rFr X (7 * x + b)) X), rAp (rForgets n x b (rFr X (7 * x + b)) (rDg (rMa S x - 1) b - rFr X (7 * x + b)) X), va_up (rFr (rForgets n x b (rFr X (7 * x + b)) (rDg (rMa S x - 1) b - rFr X (7 * x + b)) X)) ((7 * x) + b) (max (rFr X (7 * x + b)) (rDg (rMa S x - 1) b)), rMa (rForgets n x b (rFr X (7 * x + b)) (rDg (rMa S x - 1) b - rFr X (7 * x + b)) X), rHe (rForgets n x b (rFr X (7 * x + b)) (rDg (rMa S x - 1) b - rFr X (7 * x + b)) X), rHm (rForgets n x b (rFr X (7 * x + b)) (rDg (rMa S x - 1) b - rFr X (7 * x + b)) X), rAc (rForgets n x b (rFr X (7 * x + b)) (rDg (rMa S x - 1) b - rFr X (7 * x + b)) X))) cx hK d_M_release_168 8 0 rfl rfl (by omega) (by decide) rfl ?_
            refine gj_iincN (pc := 169) cx d_M_release_169 (k := 2) (d := 1) (lo' := [(3, .int (nI (b + 1))), (0, .ref (am 0)), (1, .int (nI x)), (4, .int (nI (rDg (rMa S x - 1) b))), (5, .int (nI (rFr X (7 * x + b) + 1 + (rDg (rMa S x - 1) b - rFr X (7 * x + b)))))]) rfl (by decide) (by decide) rfl ?_
            refine gj_goto (pc := 172) cx d_M_release_172 (tgt := 65) rfl ?_
            refine gj_pick (lo' := [(0, .ref (am 0)), (1, .int (nI x)), (3, .int (nI (b + 1)))]) [1, 2, 0] rfl ?_
            exact gj_eq rfl (rfl) rfl (by subst hX; rw [show rFreeTo n x (rMa S x - 1) (b + 1) S = rFreeC n x (rMa S x - 1) b (rFreeTo n x (rMa S x - 1) b S) from rfl, rFreeC_eq]) (ihb (by omega))
        · refine gj_aload_n (pc := 112) cx d_M_release_112 rfl (x := am 0) rfl ?_
          refine gj_iload_n (pc := 113) cx d_M_release_113 rfl (x := nI x) rfl ?_
          refine gj_iload_n (pc := 114) cx d_M_release_114 rfl (x := nI b) rfl ?_
          refine gj_iload (pc := 115) cx d_M_release_115 (x := nI (rFr X (7 * x + b) + 1 + j)) rfl ?_
          refine gj_callVWv (pc := 117) (As := [.int (nI x), .int (nI b), .int (nI (rFr X (7 * x + b) + 1 + j))]) (rest := []) (ws' := rW cI cJ am n f z (rForget (rForgets n x b (rFr X (7 * x + b)) j X) n x b (rFr X (7 * x + b) + 1 + j))) cx hK hA (fun sz => c_M_forget l D cI cJ am n f z (rForgets n x b (rFr X (7 * x + b)) j X) x b (rFr X (7 * x + b) + 1 + j) (by omega) (by omega) (by omega) (by omega) (by omega) sz) (cwV 3 cx.2.2.2.2 (good_V wm_443 wm_441 wm_442 wm_566 wm_5) rfl rfl rfl (by decide +kernel) ⟨Nat.le_of_ble_eq_true rfl, Nat.le_of_ble_eq_true rfl⟩) gj_J.self 0 2 rfl rfl rfl rfl rfl (Nat.le_of_ble_eq_true rfl) d_M_release_117 ⟨Nat.zero_le _, Nat.zero_le _⟩ ?_
          refine gj_iincN (pc := 120) cx d_M_release_120 (k := 4) (d := 1) (lo' := [(5, .int (nI ((rFr X (7 * x + b) + 1 + j) + 1))), (0, .ref (am 0)), (1, .int (nI x)), (3, .int (nI b)), (4, .int (nI (rDg (rMa S x - 1) b)))]) rfl (by decide) (by decide) rfl ?_
          refine gj_goto (pc := 123) cx d_M_release_123 (tgt := 105) rfl ?_
          refine gj_pick (lo' := [(0, .ref (am 0)), (1, .int (nI x)), (3, .int (nI b)), (4, .int (nI (rDg (rMa S x - 1) b))), (5, .int (nI ((rFr X (7 * x + b) + 1 + j) + 1)))]) [1, 2, 3, 4, 0] rfl ?_
          exact gj_eq rfl (rfl) rfl (rfl) (ihj (by omega))
    · have hse : rSame S n x = cntB (fun y => decide (0 < rMa S x ∧ rHm S (7 * x + y) = rMa S x)) i := by rw [show i = n from (by omega)]; rfl
      exact gj_vretW (pc := 62) cx hr hlk d_M_release_62 (by rw [rRel, if_pos (by omega)])
  · refine gj_aload_n (pc := 12) cx d_M_release_12 rfl (x := am 0) rfl ?_
    refine gj_get (pc := 13) (ci := 2) (C := R_M) (T := T_M) (N := 15) (v := .ref (am 9)) cx hK gj_wP in_M d_M_release_13 0 rfl rfl 11 (by decide) (in_WT wm_352) rfl ?_
    refine gj_iload_n (pc := 16) cx d_M_release_16 rfl (x := nI x) rfl ?_
    refine gj_ialdN (pc := 17) (i := x) (f := rMa S) cx hK gj_wP d_M_release_17 9 0 rfl rfl (by omega) (by decide) ?_
    have hv8 := hok.2.2.2.2.1 x
    refine gj_if_leN (pc := 18) cx d_M_release_18 (tgt := 44) rfl (by omega) (fun hb9 => ?_) (fun hb9 => ?_)
    · refine gj_iincN (pc := 44) cx d_M_release_44 (k := 3) (d := 1) (lo' := [(3, .int (nI (i + 1))), (0, .ref (am 0)), (1, .int (nI x)), (2, .int (nI (cntB (fun y => decide (0 < rMa S x ∧ rHm S (7 * x + y) = rMa S x)) i)))]) rfl (by decide) (by decide) rfl ?_
      refine gj_goto (pc := 47) cx d_M_release_47 (tgt := 4) rfl ?_
      refine gj_pick (lo' := [(0, .ref (am 0)), (1, .int (nI x)), (2, .int (nI (cntB (fun y => decide (0 < rMa S x ∧ rHm S (7 * x + y) = rMa S x)) i))), (3, .int (nI (i + 1)))]) [1, 2, 3, 0] rfl ?_
      exact gj_eq rfl (by rw [cntB_f (decide_eq_false (fun z => by omega))]) rfl (rfl) (ihi (by omega))
    · refine gj_aload_n (pc := 21) cx d_M_release_21 rfl (x := am 0) rfl ?_
      refine gj_get (pc := 22) (ci := 2) (C := R_M) (T := T_M) (N := 15) (v := .ref (am 11)) cx hK gj_wP in_M d_M_release_22 0 rfl rfl 13 (by decide) (in_WT wm_354) rfl ?_
      refine gj_bipush (pc := 25) cx d_M_release_25 (v := nI 7) (by decide) ?_
      refine gj_iload_n (pc := 27) cx d_M_release_27 rfl (x := nI x) rfl ?_
      refine gj_imulN (pc := 28) cx d_M_release_28 ?_
      refine gj_iload_n (pc := 29) cx d_M_release_29 rfl (x := nI i) rfl ?_
      refine gj_iaddN (pc := 30) cx d_M_release_30 ?_
      refine gj_ialdN (pc := 31) (i := (7 * x) + i) (f := rHm S) cx hK gj_wP d_M_release_31 11 0 rfl rfl (by omega) (by decide) ?_
      have hv10 := hok.2.2.2.2.2 ((7 * x) + i)
      refine gj_aload_n (pc := 32) cx d_M_release_32 rfl (x := am 0) rfl ?_
      refine gj_get (pc := 33) (ci := 2) (C := R_M) (T := T_M) (N := 15) (v := .ref (am 9)) cx hK gj_wP in_M d_M_release_33 0 rfl rfl 11 (by decide) (in_WT wm_352) rfl ?_
      refine gj_iload_n (pc := 36) cx d_M_release_36 rfl (x := nI x) rfl ?_
      refine gj_ialdN (pc := 37) (i := x) (f := rMa S) cx hK gj_wP d_M_release_37 9 0 rfl rfl (by omega) (by decide) ?_
      have hv11 := hok.2.2.2.2.1 x
      refine gj_icmp_neN (pc := 38) cx d_M_release_38 (tgt := 44) rfl (by omega) (by omega) (fun hb12 => ?_) (fun hb12 => ?_)
      · refine gj_iincN (pc := 44) cx d_M_release_44 (k := 3) (d := 1) (lo' := [(3, .int (nI (i + 1))), (0, .ref (am 0)), (1, .int (nI x)), (2, .int (nI (cntB (fun y => decide (0 < rMa S x ∧ rHm S (7 * x + y) = rMa S x)) i)))]) rfl (by decide) (by decide) rfl ?_
        refine gj_goto (pc := 47) cx d_M_release_47 (tgt := 4) rfl ?_
        refine gj_pick (lo' := [(0, .ref (am 0)), (1, .int (nI x)), (2, .int (nI (cntB (fun y => decide (0 < rMa S x ∧ rHm S (7 * x + y) = rMa S x)) i))), (3, .int (nI (i + 1)))]) [1, 2, 3, 0] rfl ?_
        exact gj_eq rfl (by rw [cntB_f (decide_eq_false (fun z => by omega))]) rfl (rfl) (ihi (by omega))
      · refine gj_iincN (pc := 41) cx d_M_release_41 (k := 2) (d := 1) (lo' := [(2, .int (nI ((cntB (fun y => decide (0 < rMa S x ∧ rHm S (7 * x + y) = rMa S x)) i) + 1))), (0, .ref (am 0)), (1, .int (nI x)), (3, .int (nI i))]) rfl (by decide) (by decide) rfl ?_
        refine gj_iincN (pc := 44) cx d_M_release_44 (k := 3) (d := 1) (lo' := [(3, .int (nI (i + 1))), (2, .int (nI ((cntB (fun y => decide (0 < rMa S x ∧ rHm S (7 * x + y) = rMa S x)) i) + 1))), (0, .ref (am 0)), (1, .int (nI x))]) rfl (by decide) (by decide) rfl ?_
        refine gj_goto (pc := 47) cx d_M_release_47 (tgt := 4) rfl ?_
        refine gj_pick (lo' := [(0, .ref (am 0)), (1, .int (nI x)), (2, .int (nI ((cntB (fun y => decide (0 < rMa S x ∧ rHm S (7 * x + y) = rMa S x)) i) + 1))), (3, .int (nI (i + 1)))]) [2, 3, 1, 0] rfl ?_
        exact gj_eq rfl (by rw [cntB_t (decide_eq_true ⟨by omega, by omega⟩)]) rfl (rfl) (ihi (by omega))
