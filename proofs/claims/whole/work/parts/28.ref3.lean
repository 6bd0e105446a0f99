/-! Contracts of the reference, third part, laid by wip/gen/m_ref.py -/
set_option maxRecDepth 100000 in
set_option maxHeartbeats 4000000 in
theorem c_M_apply (l : Launch) (D : va_G) (cI cJ : ClassId) (am : Nat → Nat) (n f : Nat) (z : Int64) (S : RS) (x : Nat) (hn : n ≤ 7) (hok : rOk S) (hx : x < 7) (sz : Nat) : MWi l y_M_apply (wsM y_M_apply b_M_apply 9 (some .int)) { frames := 3, cells := 0, slots := 0, locals := 75 } D vwK (tyl cI cJ) (rW cI cJ am n f z S) (rW cI cJ am n f z ((rApy n z x 36 0 S).2)) sz [.ref (am 0), .int (nI x)] ((rApy n z x 36 0 S).1) := by
  refine gj_enterW (own := R_M) (by decide) rfl (Nat.le_of_ble_eq_true rfl) rfl rfl (fun p e s m below meth c cx hr hlk hK hsz => ?_)
  have hA : ∀ q, s.heap.size ≤ q → va_A (rW cI cJ am n f z S) sz q := fun q h => Or.inr (hsz ▸ h)
  refine gj_iconst (pc := 0) cx d_M_apply_0 (v := nI 0) (by decide) ?_
  refine gj_istore_n (pc := 1) cx d_M_apply_1 rfl (lo' := [(2, .int (nI 0)), (0, .ref (am 0)), (1, .int (nI x))]) (by decide) rfl ?_
  refine gj_iconst (pc := 2) cx d_M_apply_2 (v := nI 1) (by decide) ?_
  refine gj_istore_n (pc := 3) cx d_M_apply_3 rfl (lo' := [(3, .int (nI 1)), (2, .int (nI 0)), (0, .ref (am 0)), (1, .int (nI x))]) (by decide) rfl ?_
  refine gj_iconst (pc := 4) cx d_M_apply_4 (v := nI 0) (by decide) ?_
  refine gj_istore (pc := 5) cx d_M_apply_5 (lo' := [(4, .int (nI 0)), (3, .int (nI 1)), (2, .int (nI 0)), (0, .ref (am 0)), (1, .int (nI x))]) (by decide) rfl ?_
  refine gj_pick (lo' := [(0, .ref (am 0)), (1, .int (nI x)), (2, .int (nI 0)), (3, .int (nI 1)), (4, .int (nI 0))]) [3, 4, 2, 1, 0] rfl ?_
  refine gj_forS (G := Gj p l e _ s m _ below meth c _ _ _ _ _) (σ := RS) (fun i Z => rApy n z x (36 - i) i Z = rApy n z x 36 0 S ∧ rOk Z) 36 7 (fun i _ => [(0, .ref (am 0)), (1, .int (nI x)), (2, .int (nI i)), (3, .int (nI 1)), (4, .int (nI i))]) (fun _ Z => rW cI cJ am n f z Z) (fun i hi ih Z hq => ?_) 0 (by omega) S ⟨rfl, hok⟩
  obtain ⟨hE, hokZ⟩ := hq
  refine gj_iload (pc := 7) cx d_M_apply_7 (x := nI i) rfl ?_
  refine gj_bipush (pc := 9) cx d_M_apply_9 (v := nI 35) (by decide) ?_
  refine gj_icmp_gtN (pc := 11) cx d_M_apply_11 (tgt := 148) rfl (by omega) (by omega) (fun hb1 => ?_) (fun hb1 => ?_)
  · refine gj_iload_n (pc := 148) cx d_M_apply_148 rfl (x := nI i) rfl ?_
    exact gj_iretW (pc := 149) cx hr hlk d_M_apply_149 (by rw [← hE, show i = 36 from (by omega)]; rfl) (by rw [← hE, show i = 36 from (by omega)]; rfl)
  · refine gj_iload_n (pc := 14) cx d_M_apply_14 rfl (x := nI 1) rfl ?_
    refine gj_if_eqN (pc := 15) cx d_M_apply_15 (tgt := 148) rfl (by omega) (fun hb2 => absurd hb2 (by omega)) (fun hb2 => ?_)
    refine gj_iconst (pc := 18) cx d_M_apply_18 (v := nI 0) (by decide) ?_
    refine gj_istore_n (pc := 19) cx d_M_apply_19 rfl (lo' := [(3, .int (nI 0)), (0, .ref (am 0)), (1, .int (nI x)), (2, .int (nI i)), (4, .int (nI i))]) (by decide) rfl ?_
    refine gj_iconst (pc := 20) cx d_M_apply_20 (v := nI 0) (by decide) ?_
    refine gj_istore (pc := 21) cx d_M_apply_21 (lo' := [(5, .int (nI 0)), (3, .int (nI 0)), (0, .ref (am 0)), (1, .int (nI x)), (2, .int (nI i)), (4, .int (nI i))]) (by decide) rfl ?_
    refine gj_pick (lo' := [(0, .ref (am 0)), (1, .int (nI x)), (2, .int (nI i)), (3, .int (nI 0)), (4, .int (nI i)), (5, .int (nI 0))]) [2, 3, 4, 1, 5, 0] rfl ?_
    refine gj_forH (G := Gj p l e _ s m _ below meth c _ _ _ _ _) (fun g => fstB (rNxt Z n z x) (n - g) g = rLst Z n z x) n 23 (fun g => [(0, .ref (am 0)), (1, .int (nI x)), (2, .int (nI i)), (3, .int (nI 0)), (4, .int (nI i)), (5, .int (nI g))]) (fun g => rW cI cJ am n f z Z) (fun g hg ihg qg => ?_) 0 (by omega) (rfl)
    refine gj_iload (pc := 23) cx d_M_apply_23 (x := nI g) rfl ?_
    refine gj_aload_n (pc := 25) cx d_M_apply_25 rfl (x := am 0) rfl ?_
    refine gj_get (pc := 26) (ci := 2) (C := R_M) (T := T_M) (N := 15) (v := .int (nI n)) cx hK gj_wP in_M d_M_apply_26 0 rfl rfl 0 (by decide) (in_WT wm_341) rfl ?_
    refine gj_icmp_geN (pc := 29) cx d_M_apply_29 (tgt := 142) rfl (by omega) (by omega) (fun hb3 => ?_) (fun hb3 => ?_)
    · refine gj_iincN (pc := 142) cx d_M_apply_142 (k := 4) (d := 1) (lo' := [(4, .int (nI (i + 1))), (0, .ref (am 0)), (1, .int (nI x)), (2, .int (nI i)), (3, .int (nI 0)), (5, .int (nI g))]) rfl (by decide) (by decide) rfl ?_
      refine gj_goto (pc := 145) cx d_M_apply_145 (tgt := 7) rfl ?_
      refine gj_iload (pc := 7) cx d_M_apply_7 (x := nI (i + 1)) rfl ?_
      refine gj_bipush (pc := 9) cx d_M_apply_9 (v := nI 35) (by decide) ?_
      refine gj_icmp_gtN (pc := 11) cx d_M_apply_11 (tgt := 148) rfl (by omega) (by omega) (fun hb4 => ?_) (fun hb4 => ?_)
      · refine gj_iload_n (pc := 148) cx d_M_apply_148 rfl (x := nI i) rfl ?_
        exact gj_iretW (pc := 149) cx hr hlk d_M_apply_149 (by rw [← hE, rApy_end (qg.symm.trans ((fstB_e (by omega)).trans (by omega)))]) (by rw [← hE, rApy_end (qg.symm.trans ((fstB_e (by omega)).trans (by omega)))])
      · refine gj_iload_n (pc := 14) cx d_M_apply_14 rfl (x := nI 0) rfl ?_
        refine gj_if_eqN (pc := 15) cx d_M_apply_15 (tgt := 148) rfl (by omega) (fun hb5 => ?_) (fun hb5 => absurd hb5 (by omega))
        refine gj_iload_n (pc := 148) cx d_M_apply_148 rfl (x := nI i) rfl ?_
        exact gj_iretW (pc := 149) cx hr hlk d_M_apply_149 (by rw [← hE, rApy_end (qg.symm.trans ((fstB_e (by omega)).trans (by omega)))]) (by rw [← hE, rApy_end (qg.symm.trans ((fstB_e (by omega)).trans (by omega)))])
    · refine gj_iload_n (pc := 32) cx d_M_apply_32 rfl (x := nI 0) rfl ?_
      refine gj_if_neN (pc := 33) cx d_M_apply_33 (tgt := 142) rfl (by omega) (fun hb6 => absurd hb6 (by omega)) (fun hb6 => ?_)
      refine gj_aload_n (pc := 36) cx d_M_apply_36 rfl (x := am 0) rfl ?_
      refine gj_iload_n (pc := 37) cx d_M_apply_37 rfl (x := nI x) rfl ?_
      refine gj_iload (pc := 38) cx d_M_apply_38 (x := nI g) rfl ?_
      refine gj_callVRi (pc := 40) (As := [.int (nI x), .int (nI g)]) (rest := []) (v := nI (rCnt Z x g)) cx hK (c_M_count l D cI cJ am n f z Z x g (by omega) (by omega)) (cwV 2 cx.2.2.2.2 (good_V wm_455 wm_453 wm_454 wm_570 wm_5) rfl rfl rfl (by decide +kernel) ⟨Nat.le_of_ble_eq_true rfl, Nat.le_of_ble_eq_true rfl⟩) gj_wP 0 2 rfl rfl rfl rfl rfl (Nat.le_of_ble_eq_true rfl) d_M_apply_40 ⟨Nat.zero_le _, Nat.zero_le _⟩ ?_
      have hv7 := rCnt_lt Z x g
      refine gj_iconst (pc := 43) cx d_M_apply_43 (v := nI 1) (by decide) ?_
      refine gj_iaddN (pc := 44) cx d_M_apply_44 ?_
      refine gj_istore (pc := 45) cx d_M_apply_45 (lo' := [(6, .int (nI ((rCnt Z x g) + 1))), (0, .ref (am 0)), (1, .int (nI x)), (2, .int (nI i)), (3, .int (nI 0)), (4, .int (nI i)), (5, .int (nI g))]) (by decide) rfl ?_
      refine gj_iload (pc := 47) cx d_M_apply_47 (x := nI ((rCnt Z x g) + 1)) rfl ?_
      refine gj_iconst (pc := 49) cx d_M_apply_49 (v := nI 5) (by decide) ?_
      refine gj_icmp_leN (pc := 50) cx d_M_apply_50 (tgt := 57) rfl (by omega) (by omega) (fun hb8 => ?_) (fun hb8 => ?_)
      · refine gj_aload_n (pc := 57) cx d_M_apply_57 rfl (x := am 0) rfl ?_
        refine gj_get (pc := 58) (ci := 2) (C := R_M) (T := T_M) (N := 15) (v := .ref (am 12)) cx hK gj_wP in_M d_M_apply_58 0 rfl rfl 14 (by decide) (in_WT wm_355) rfl ?_
        refine gj_iload_n (pc := 61) cx d_M_apply_61 rfl (x := nI x) rfl ?_
        refine gj_iload (pc := 62) cx d_M_apply_62 (x := nI g) rfl ?_
        refine gj_iload (pc := 64) cx d_M_apply_64 (x := nI ((rCnt Z x g) + 1)) rfl ?_
        refine gj_callSRi (pc := 66) (As := [.int (nI x), .int (nI g), .int (nI ((rCnt Z x g) + 1))]) (rest := [.ref (am 12)]) (v := nI ((x * 7 + g) * 5 + ((rCnt Z x g) + 1) - 1)) cx hK (c_M_at l D (tyl cI cJ) x g ((rCnt Z x g) + 1) (by omega)) (va_cwS 3 cx.2.2.2.2 (good_S wm_399 wm_397 wm_398 wm_5) rfl rfl rfl (by decide +kernel) ⟨Nat.le_of_ble_eq_true rfl, Nat.le_of_ble_eq_true rfl⟩) (fun _ _ _ => gj_P0) rfl rfl (Nat.le_of_ble_eq_true rfl) d_M_apply_66 ⟨Nat.zero_le _, Nat.zero_le _⟩ ?_
        refine gj_toi (y := nI ((x * 7 + g) * 5 + rCnt Z x g)) (congrArg nI (by omega)) ?_
        refine gj_lald (pc := 69) (i := (x * 7 + g) * 5 + rCnt Z x g) (f := rAc Z) cx hK gj_wP d_M_apply_69 12 1 rfl rfl (by omega) (by decide) ?_
        refine gj_lstore (pc := 70) cx d_M_apply_70 (lo' := [(7, .long (rAc Z ((x * 7 + g) * 5 + rCnt Z x g))), (6, .int (nI ((rCnt Z x g) + 1))), (0, .ref (am 0)), (1, .int (nI x)), (2, .int (nI i)), (3, .int (nI 0)), (4, .int (nI i)), (5, .int (nI g))]) (by decide) rfl ?_
        refine gj_lload (pc := 72) cx d_M_apply_72 (x := rAc Z ((x * 7 + g) * 5 + rCnt Z x g)) rfl ?_
        refine gj_lconst (pc := 74) cx d_M_apply_74 (v := 0) (by decide) ?_
        refine gj_lcmp_eq (pc := 75) cx d_M_apply_75 d_M_apply_76 (tgt := 136) rfl (fun hb9 => ?_) (fun hb9 => ?_)
        · refine gj_iincN (pc := 136) cx d_M_apply_136 (k := 7) (d := 1) (lo' := [(5, .int (nI (g + 1))), (7, .long (rAc Z ((x * 7 + g) * 5 + rCnt Z x g))), (6, .int (nI ((rCnt Z x g) + 1))), (0, .ref (am 0)), (1, .int (nI x)), (2, .int (nI i)), (3, .int (nI 0)), (4, .int (nI i))]) rfl (by decide) (by decide) rfl ?_
          refine gj_goto (pc := 139) cx d_M_apply_139 (tgt := 23) rfl ?_
          refine gj_pick (lo' := [(0, .ref (am 0)), (1, .int (nI x)), (2, .int (nI i)), (3, .int (nI 0)), (4, .int (nI i)), (5, .int (nI (g + 1)))]) [3, 4, 5, 6, 7, 0] rfl ?_
          exact gj_eq rfl (rfl) rfl (rfl) (ihg (by omega) ((fstB_f (by omega) (by simp [rNxt, hb3, hb6, hb8, hb9] <;> omega)).symm.trans qg))
        · refine gj_aload_n (pc := 79) cx d_M_apply_79 rfl (x := am 0) rfl ?_
          refine gj_iload_n (pc := 80) cx d_M_apply_80 rfl (x := nI x) rfl ?_
          refine gj_iload (pc := 81) cx d_M_apply_81 (x := nI g) rfl ?_
          refine gj_lload (pc := 83) cx d_M_apply_83 (x := rAc Z ((x * 7 + g) * 5 + rCnt Z x g)) rfl ?_
          refine gj_callVRi (pc := 85) (As := [.int (nI x), .int (nI g), .long (rAc Z ((x * 7 + g) * 5 + rCnt Z x g))]) (rest := []) (v := bI (rVal Z n z x g (rAc Z ((x * 7 + g) * 5 + rCnt Z x g)))) cx hK (c_M_valid l D cI cJ am n f z Z x g (rAc Z ((x * 7 + g) * 5 + rCnt Z x g)) (by omega) (by omega) (by omega)) (cwV 3 cx.2.2.2.2 (good_V wm_461 wm_459 wm_460 wm_572 wm_5) rfl rfl rfl (by decide +kernel) ⟨Nat.le_of_ble_eq_true rfl, Nat.le_of_ble_eq_true rfl⟩) gj_wP 0 2 rfl rfl rfl rfl rfl (Nat.le_of_ble_eq_true rfl) d_M_apply_85 ⟨Nat.zero_le _, Nat.zero_le _⟩ ?_
          refine gj_if_eqB (pc := 88) cx d_M_apply_88 (tgt := 136) rfl (fun hb10 => ?_) (fun hb10 => ?_)
          · refine gj_iincN (pc := 136) cx d_M_apply_136 (k := 7) (d := 1) (lo' := [(5, .int (nI (g + 1))), (7, .long (rAc Z ((x * 7 + g) * 5 + rCnt Z x g))), (6, .int (nI ((rCnt Z x g) + 1))), (0, .ref (am 0)), (1, .int (nI x)), (2, .int (nI i)), (3, .int (nI 0)), (4, .int (nI i))]) rfl (by decide) (by decide) rfl ?_
            refine gj_goto (pc := 139) cx d_M_apply_139 (tgt := 23) rfl ?_
            refine gj_pick (lo' := [(0, .ref (am 0)), (1, .int (nI x)), (2, .int (nI i)), (3, .int (nI 0)), (4, .int (nI i)), (5, .int (nI (g + 1)))]) [3, 4, 5, 6, 7, 0] rfl ?_
            exact gj_eq rfl (rfl) rfl (rfl) (ihg (by omega) ((fstB_f (by omega) (by simp [rNxt, hb3, hb6, hb8, hb9, hb10] <;> omega)).symm.trans qg))
          · have hLg : rLst Z n z x = g := qg.symm.trans (fstB_t (by omega) (by simp [rNxt, hb3, hb6, hb8, hb9, hb10] <;> omega))
            refine gj_aload_n (pc := 91) cx d_M_apply_91 rfl (x := am 0) rfl ?_
            refine gj_iload_n (pc := 92) cx d_M_apply_92 rfl (x := nI x) rfl ?_
            refine gj_callVWi (pc := 93) (As := [.int (nI x)]) (rest := []) (v := bI (rBn Z x)) (ws' := rW cI cJ am n f z (rBurn Z x)) cx hK hA (fun sz => c_M_burns l D cI cJ am n f z Z x (by omega) (hokZ) sz) (cwV 1 cx.2.2.2.2 (good_V wm_446 wm_444 wm_445 wm_567 wm_5) rfl rfl rfl (by decide +kernel) ⟨Nat.le_of_ble_eq_true rfl, Nat.le_of_ble_eq_true rfl⟩) gj_J.self 0 2 rfl rfl rfl rfl rfl (Nat.le_of_ble_eq_true rfl) d_M_apply_93 ⟨Nat.zero_le _, Nat.zero_le _⟩ ?_
            refine gj_if_eqB (pc := 96) cx d_M_apply_96 (tgt := 102) rfl (fun hb11 => ?_) (fun hb11 => ?_)
            · refine gj_eq (w' := rW cI cJ am n f z (rSt Z, va_up (rFu Z) x (rFu Z x - 1), rSu Z, rOw Z, rEc Z, rRe Z, rAp Z, rFr Z, rMa Z, rHe Z, rHm Z, rAc Z)) rfl rfl rfl (by rw [rBurn_t hb11]) ?_
              refine gj_aload_n (pc := 102) cx d_M_apply_102 rfl (x := am 0) rfl ?_
              refine gj_get (pc := 103) (ci := 2) (C := R_M) (T := T_M) (N := 15) (v := .ref (am 7)) cx hK gj_wP in_M d_M_apply_103 0 rfl rfl 9 (by decide) (in_WT wm_350) rfl ?_
              refine gj_iload_n (pc := 106) cx d_M_apply_106 rfl (x := nI x) rfl ?_
              refine gj_iload (pc := 107) cx d_M_apply_107 (x := nI g) rfl ?_
              refine gj_iload (pc := 109) cx d_M_apply_109 (x := nI ((rCnt Z x g) + 1)) rfl ?_
              refine gj_callSRi (pc := 111) (As := [.int (nI x), .int (nI g), .int (nI ((rCnt Z x g) + 1))]) (rest := [.ref (am 7)]) (v := nI ((x * 7 + g) * 5 + ((rCnt Z x g) + 1) - 1)) cx hK (c_M_at l D (tyl cI cJ) x g ((rCnt Z x g) + 1) (by omega)) (va_cwS 3 cx.2.2.2.2 (good_S wm_399 wm_397 wm_398 wm_5) rfl rfl rfl (by decide +kernel) ⟨Nat.le_of_ble_eq_true rfl, Nat.le_of_ble_eq_true rfl⟩) (fun _ _ _ => gj_P0) rfl rfl (Nat.le_of_ble_eq_true rfl) d_M_apply_111 ⟨Nat.zero_le _, Nat.zero_le _⟩ ?_
              refine gj_toi (y := nI ((x * 7 + g) * 5 + rCnt Z x g)) (congrArg nI (by omega)) ?_
              refine gj_lload (pc := 114) cx d_M_apply_114 (x := rAc Z ((x * 7 + g) * 5 + rCnt Z x g)) rfl ?_
              refine gj_last (pc := 116) (i := (x * 7 + g) * 5 + rCnt Z x g) (f := rAp Z) (x := rAc Z ((x * 7 + g) * 5 + rCnt Z x g)) (ws' := rW cI cJ am n f z (rSt Z, va_up (rFu Z) x (rFu Z x - 1), rSu Z, rOw Z, rEc Z, rRe Z, va_up (rAp Z) ((x * 7 + g) * 5 + rCnt Z x g) (rAc Z ((x * 7 + g) * 5 + rCnt Z x g)), rFr Z, rMa Z, rHe Z, rHm Z, rAc Z)) cx hK d_M_apply_116 7 1 rfl rfl (by omega) (by decide) rfl ?_
              refine gj_aload_n (pc := 117) cx d_M_apply_117 rfl (x := am 0) rfl ?_
              refine gj_get (pc := 118) (ci := 2) (C := R_M) (T := T_M) (N := 15) (v := .ref (am 12)) cx hK gj_wP in_M d_M_apply_118 0 rfl rfl 14 (by decide) (in_WT wm_355) rfl ?_
              refine gj_iload_n (pc := 121) cx d_M_apply_121 rfl (x := nI x) rfl ?_
              refine gj_iload (pc := 122) cx d_M_apply_122 (x := nI g) rfl ?_
              refine gj_iload (pc := 124) cx d_M_apply_124 (x := nI ((rCnt Z x g) + 1)) rfl ?_
              refine gj_callSRi (pc := 126) (As := [.int (nI x), .int (nI g), .int (nI ((rCnt Z x g) + 1))]) (rest := [.ref (am 12)]) (v := nI ((x * 7 + g) * 5 + ((rCnt Z x g) + 1) - 1)) cx hK (c_M_at l D (tyl cI cJ) x g ((rCnt Z x g) + 1) (by omega)) (va_cwS 3 cx.2.2.2.2 (good_S wm_399 wm_397 wm_398 wm_5) rfl rfl rfl (by decide +kernel) ⟨Nat.le_of_ble_eq_true rfl, Nat.le_of_ble_eq_true rfl⟩) (fun _ _ _ => gj_P0) rfl rfl (Nat.le_of_ble_eq_true rfl) d_M_apply_126 ⟨Nat.zero_le _, Nat.zero_le _⟩ ?_
              refine gj_toi (y := nI ((x * 7 + g) * 5 + rCnt Z x g)) (congrArg nI (by omega)) ?_
              refine gj_lconst (pc := 129) cx d_M_apply_129 (v := 0) (by decide) ?_
              refine gj_last (pc := 130) (i := (x * 7 + g) * 5 + rCnt Z x g) (f := rAc Z) (x := 0) (ws' := rW cI cJ am n f z (rSt Z, va_up (rFu Z) x (rFu Z x - 1), rSu Z, rOw Z, rEc Z, rRe Z, va_up (rAp Z) ((x * 7 + g) * 5 + rCnt Z x g) (rAc Z ((x * 7 + g) * 5 + rCnt Z x g)), rFr Z, rMa Z, rHe Z, rHm Z, va_up (rAc Z) ((x * 7 + g) * 5 + rCnt Z x g) 0)) cx hK d_M_apply_130 12 1 rfl rfl (by omega) (by decide) rfl ?_
              refine gj_iincN (pc := 131) cx d_M_apply_131 (k := 4) (d := 1) (lo' := [(2, .int (nI (i + 1))), (7, .long (rAc Z ((x * 7 + g) * 5 + rCnt Z x g))), (6, .int (nI ((rCnt Z x g) + 1))), (0, .ref (am 0)), (1, .int (nI x)), (3, .int (nI 0)), (4, .int (nI i)), (5, .int (nI g))]) rfl (by decide) (by decide) rfl ?_
              refine gj_iconst (pc := 134) cx d_M_apply_134 (v := nI 1) (by decide) ?_
              refine gj_istore_n (pc := 135) cx d_M_apply_135 rfl (lo' := [(3, .int (nI 1)), (2, .int (nI (i + 1))), (7, .long (rAc Z ((x * 7 + g) * 5 + rCnt Z x g))), (6, .int (nI ((rCnt Z x g) + 1))), (0, .ref (am 0)), (1, .int (nI x)), (4, .int (nI i)), (5, .int (nI g))]) (by decide) rfl ?_
              refine gj_iincN (pc := 136) cx d_M_apply_136 (k := 7) (d := 1) (lo' := [(5, .int (nI (g + 1))), (3, .int (nI 1)), (2, .int (nI (i + 1))), (7, .long (rAc Z ((x * 7 + g) * 5 + rCnt Z x g))), (6, .int (nI ((rCnt Z x g) + 1))), (0, .ref (am 0)), (1, .int (nI x)), (4, .int (nI i))]) rfl (by decide) (by decide) rfl ?_
              refine gj_goto (pc := 139) cx d_M_apply_139 (tgt := 23) rfl ?_
              refine gj_iload (pc := 23) cx d_M_apply_23 (x := nI (g + 1)) rfl ?_
              refine gj_aload_n (pc := 25) cx d_M_apply_25 rfl (x := am 0) rfl ?_
              refine gj_get (pc := 26) (ci := 2) (C := R_M) (T := T_M) (N := 15) (v := .int (nI n)) cx hK gj_wP in_M d_M_apply_26 0 rfl rfl 0 (by decide) (in_WT wm_341) rfl ?_
              refine gj_icmp_geN (pc := 29) cx d_M_apply_29 (tgt := 142) rfl (by omega) (by omega) (fun hb12 => ?_) (fun hb12 => ?_)
              · refine gj_iincN (pc := 142) cx d_M_apply_142 (k := 7) (d := 1) (lo' := [(4, .int (nI (i + 1))), (5, .int (nI (g + 1))), (3, .int (nI 1)), (2, .int (nI (i + 1))), (7, .long (rAc Z ((x * 7 + g) * 5 + rCnt Z x g))), (6, .int (nI ((rCnt Z x g) + 1))), (0, .ref (am 0)), (1, .int (nI x))]) rfl (by decide) (by decide) rfl ?_
                refine gj_goto (pc := 145) cx d_M_apply_145 (tgt := 7) rfl ?_
                refine gj_pick (lo' := [(0, .ref (am 0)), (1, .int (nI x)), (2, .int (nI (i + 1))), (3, .int (nI 1)), (4, .int (nI (i + 1)))]) [6, 7, 3, 2, 0] rfl ?_
                exact gj_eq rfl rfl rfl (by rw [rStp, hLg]) (ih (by omega) (rStp Z n z x) ⟨(rApy_step (by omega) (by omega) (rBn_f hb11)).symm.trans hE, rOk_stp hokZ⟩)
              · refine gj_iload_n (pc := 32) cx d_M_apply_32 rfl (x := nI 1) rfl ?_
                refine gj_if_neN (pc := 33) cx d_M_apply_33 (tgt := 142) rfl (by omega) (fun hb13 => ?_) (fun hb13 => absurd hb13 (by omega))
                refine gj_iincN (pc := 142) cx d_M_apply_142 (k := 7) (d := 1) (lo' := [(4, .int (nI (i + 1))), (5, .int (nI (g + 1))), (3, .int (nI 1)), (2, .int (nI (i + 1))), (7, .long (rAc Z ((x * 7 + g) * 5 + rCnt Z x g))), (6, .int (nI ((rCnt Z x g) + 1))), (0, .ref (am 0)), (1, .int (nI x))]) rfl (by decide) (by decide) rfl ?_
                refine gj_goto (pc := 145) cx d_M_apply_145 (tgt := 7) rfl ?_
                refine gj_pick (lo' := [(0, .ref (am 0)), (1, .int (nI x)), (2, .int (nI (i + 1))), (3, .int (nI 1)), (4, .int (nI (i + 1)))]) [6, 7, 3, 2, 0] rfl ?_
                exact gj_eq rfl rfl rfl (by rw [rStp, hLg]) (ih (by omega) (rStp Z n z x) ⟨(rApy_step (by omega) (by omega) (rBn_f hb11)).symm.trans hE, rOk_stp hokZ⟩)
            · refine gj_bipush (pc := 99) cx d_M_apply_99 (v := (-7)) (by decide) ?_
              exact gj_iretW (pc := 101) cx hr hlk d_M_apply_101 (by rw [← hE, rApy_fall (by omega) (by omega) (rBn_t hb11)]) (by rw [← hE, rApy_fall (by omega) (by omega) (rBn_t hb11), rBurn_1 (rBn_t hb11)])
      · refine gj_lconst (pc := 53) cx d_M_apply_53 (v := 0) (by decide) ?_
        refine gj_goto (pc := 54) cx d_M_apply_54 (tgt := 70) rfl ?_
        refine gj_lstore (pc := 70) cx d_M_apply_70 (lo' := [(7, .long 0), (6, .int (nI ((rCnt Z x g) + 1))), (0, .ref (am 0)), (1, .int (nI x)), (2, .int (nI i)), (3, .int (nI 0)), (4, .int (nI i)), (5, .int (nI g))]) (by decide) rfl ?_
        refine gj_lload (pc := 72) cx d_M_apply_72 (x := 0) rfl ?_
        refine gj_lconst (pc := 74) cx d_M_apply_74 (v := 0) (by decide) ?_
        refine gj_lcmp_eq (pc := 75) cx d_M_apply_75 d_M_apply_76 (tgt := 136) rfl (fun hb14 => ?_) (fun hb14 => absurd hb14 (fun z => z rfl))
        refine gj_iincN (pc := 136) cx d_M_apply_136 (k := 7) (d := 1) (lo' := [(5, .int (nI (g + 1))), (7, .long 0), (6, .int (nI ((rCnt Z x g) + 1))), (0, .ref (am 0)), (1, .int (nI x)), (2, .int (nI i)), (3, .int (nI 0)), (4, .int (nI i))]) rfl (by decide) (by decide) rfl ?_
        refine gj_goto (pc := 139) cx d_M_apply_139 (tgt := 23) rfl ?_
        refine gj_pick (lo' := [(0, .ref (am 0)), (1, .int (nI x)), (2, .int (nI i)), (3, .int (nI 0)), (4, .int (nI i)), (5, .int (nI (g + 1)))]) [3, 4, 5, 6, 7, 0] rfl ?_
        exact gj_eq rfl (rfl) rfl (rfl) (ihg (by omega) ((fstB_f (by omega) (by simp [rNxt, hb3, hb6, hb8, hb14] <;> omega)).symm.trans qg))

set_option maxRecDepth 100000 in
set_option maxHeartbeats 4000000 in
theorem c_M_receive (l : Launch) (D : va_G) (cI cJ : ClassId) (am : Nat → Nat) (n f : Nat) (z : Int64) (S : RS) (x : Nat) (y : Nat) (kd : Int32) (bd : Int32) (qd : Int32) (pp : Int64) (hn : n ≤ 7) (hok : rOk S) (hx : x < 7) (hy : y < 7) (hf : f ≤ 7) (hmk : rMa S x = 0 ∨ ∀ b, b < n → rDg (rMa S x - 1) b ≤ 5) (sz : Nat) : MWi l y_M_receive (wsM y_M_receive b_M_receive 13 (some .int)) { frames := 4, cells := 0, slots := 0, locals := 103 } D vwK (tyl cI cJ) (rW cI cJ am n f z S) (rW cI cJ am n f z ((rRecvC S n f z x y kd bd qd pp).2)) sz [.ref (am 0), .int (nI x), .int (nI y), .int kd, .int bd, .int qd, .long pp] ((rRecvC S n f z x y kd bd qd pp).1) := by
  refine gj_enterW (own := R_M) (by decide) rfl (Nat.le_of_ble_eq_true rfl) rfl rfl (fun p e s m below meth c cx hr hlk hK hsz => ?_)
  have hA : ∀ q, s.heap.size ≤ q → va_A (rW cI cJ am n f z S) sz q := fun q h => Or.inr (hsz ▸ h)
  refine gj_aload_n (pc := 0) cx d_M_receive_0 rfl (x := am 0) rfl ?_
  refine gj_iload_n (pc := 1) cx d_M_receive_1 rfl (x := nI x) rfl ?_
  refine gj_iload_n (pc := 2) cx d_M_receive_2 rfl (x := nI y) rfl ?_
  refine gj_iload_n (pc := 3) cx d_M_receive_3 rfl (x := kd) rfl ?_
  refine gj_iload (pc := 4) cx d_M_receive_4 (x := bd) rfl ?_
  refine gj_iload (pc := 6) cx d_M_receive_6 (x := qd) rfl ?_
  refine gj_lload (pc := 8) cx d_M_receive_8 (x := pp) rfl ?_
  refine gj_callVRi (pc := 10) (As := [.int (nI x), .int (nI y), .int kd, .int bd, .int qd, .long pp]) (rest := []) (v := rObjC S n x y kd bd qd pp) cx hK (c_M_objection l D cI cJ am n f z S x y kd bd qd pp (by omega) (by omega) (by omega) (by omega)) (cwV 6 cx.2.2.2.2 (good_V wm_405 wm_403 wm_404 wm_560 wm_5) rfl rfl rfl (by decide +kernel) ⟨Nat.le_of_ble_eq_true rfl, Nat.le_of_ble_eq_true rfl⟩) gj_wP 0 2 rfl rfl rfl rfl rfl (Nat.le_of_ble_eq_true rfl) d_M_receive_10 ⟨Nat.zero_le _, Nat.zero_le _⟩ ?_
  refine gj_istore (pc := 13) cx d_M_receive_13 (lo' := [(8, .int (rObjC S n x y kd bd qd pp)), (0, .ref (am 0)), (1, .int (nI x)), (2, .int (nI y)), (3, .int kd), (4, .int bd), (5, .int qd), (6, .long pp)]) (by decide) rfl ?_
  refine gj_iload (pc := 15) cx d_M_receive_15 (x := rObjC S n x y kd bd qd pp) rfl ?_
  refine gj_if_eq (pc := 17) cx d_M_receive_17 (tgt := 23) rfl (fun hb1 => ?_) (fun hb1 => ?_)
  · rcases rObj_case hn hb1 with ⟨rfl, rfl, rfl, hmkp⟩ | ⟨k, b, q, hk, hb, hq1, hq5, rfl, rfl, rfl⟩
    · have hpnp := mk_pn hn hmkp
      rw [rRecv_4 hb1]
      refine gj_iload_n (pc := 23) cx d_M_receive_23 rfl (x := nI 4) rfl ?_
      refine gj_iconst (pc := 24) cx d_M_receive_24 (v := nI 4) (by decide) ?_
      refine gj_icmp_neN (pc := 25) cx d_M_receive_25 (tgt := 51) rfl (by omega) (by omega) (fun hb2 => absurd hb2 (by omega)) (fun hb2 => ?_)
      refine gj_aload_n (pc := 28) cx d_M_receive_28 rfl (x := am 0) rfl ?_
      refine gj_get (pc := 29) (ci := 2) (C := R_M) (T := T_M) (N := 15) (v := .ref (am 11)) cx hK gj_wP in_M d_M_receive_29 0 rfl rfl 13 (by decide) (in_WT wm_354) rfl ?_
      refine gj_bipush (pc := 32) cx d_M_receive_32 (v := nI 7) (by decide) ?_
      refine gj_iload_n (pc := 34) cx d_M_receive_34 rfl (x := nI x) rfl ?_
      refine gj_imulN (pc := 35) cx d_M_receive_35 ?_
      refine gj_iload_n (pc := 36) cx d_M_receive_36 rfl (x := nI y) rfl ?_
      refine gj_iaddN (pc := 37) cx d_M_receive_37 ?_
      refine gj_lload (pc := 38) cx d_M_receive_38 (x := pp) rfl ?_
      refine gj_l2i (pc := 40) cx d_M_receive_40 rfl ?_
      refine gj_iconst (pc := 41) cx d_M_receive_41 (v := nI 1) (by decide) ?_
      refine gj_iadd (pc := 42) cx d_M_receive_42 ?_
      refine gj_toi (y := nI (pn pp + 1)) (mk_l2i hpnp) ?_
      refine gj_iastN (pc := 43) (i := (7 * x) + y) (f := rHm S) (x := pn pp + 1) (ws' := rW cI cJ am n f z (rSt S, rFu S, rSu S, rOw S, rEc S, rRe S, rAp S, rFr S, rMa S, rHe S, va_up (rHm S) ((7 * x) + y) (pn pp + 1), rAc S)) cx hK d_M_receive_43 11 0 rfl rfl (by omega) (by decide) rfl ?_
      refine gj_aload_n (pc := 44) cx d_M_receive_44 rfl (x := am 0) rfl ?_
      refine gj_iload_n (pc := 45) cx d_M_receive_45 rfl (x := nI x) rfl ?_
      refine gj_callVWv (pc := 46) (As := [.int (nI x)]) (rest := []) (ws' := rW cI cJ am n f z (rRel (rSt S, rFu S, rSu S, rOw S, rEc S, rRe S, rAp S, rFr S, rMa S, rHe S, va_up (rHm S) ((7 * x) + y) (pn pp + 1), rAc S) n f x)) cx hK hA (fun sz => c_M_release l D cI cJ am n f z (rSt S, rFu S, rSu S, rOw S, rEc S, rRe S, rAp S, rFr S, rMa S, rHe S, va_up (rHm S) ((7 * x) + y) (pn pp + 1), rAc S) x (by omega) (rOk_hm hok (by omega)) (by omega) (by omega) (hmk) sz) (cwV 1 cx.2.2.2.2 (good_V wm_440 wm_438 wm_439 wm_565 wm_5) rfl rfl rfl (by decide +kernel) ⟨Nat.le_of_ble_eq_true rfl, Nat.le_of_ble_eq_true rfl⟩) gj_J.self 0 2 rfl rfl rfl rfl rfl (Nat.le_of_ble_eq_true rfl) d_M_receive_46 ⟨Nat.zero_le _, Nat.zero_le _⟩ ?_
      refine gj_iconst (pc := 49) cx d_M_receive_49 (v := nI 0) (by decide) ?_
      exact gj_iretW (pc := 50) cx hr hlk d_M_receive_50 (rfl) (rfl)
    · rw [rRecv_k hn hk hb hq1 hq5 hb1]
      refine gj_iload_n (pc := 23) cx d_M_receive_23 rfl (x := nI k) rfl ?_
      refine gj_iconst (pc := 24) cx d_M_receive_24 (v := nI 4) (by decide) ?_
      refine gj_icmp_neN (pc := 25) cx d_M_receive_25 (tgt := 51) rfl (by omega) (by omega) (fun hb3 => ?_) (fun hb3 => absurd hb3 (by omega))
      refine gj_iload_n (pc := 51) cx d_M_receive_51 rfl (x := nI x) rfl ?_
      refine gj_iload (pc := 52) cx d_M_receive_52 (x := nI b) rfl ?_
      refine gj_iload (pc := 54) cx d_M_receive_54 (x := nI q) rfl ?_
      refine gj_callSRi (pc := 56) (As := [.int (nI x), .int (nI b), .int (nI q)]) (rest := []) (v := nI ((x * 7 + b) * 5 + q - 1)) cx hK (c_M_at l D (tyl cI cJ) x b q (by omega)) (va_cwS 3 cx.2.2.2.2 (good_S wm_399 wm_397 wm_398 wm_5) rfl rfl rfl (by decide +kernel) ⟨Nat.le_of_ble_eq_true rfl, Nat.le_of_ble_eq_true rfl⟩) (fun _ _ _ => gj_P0) rfl rfl (Nat.le_of_ble_eq_true rfl) d_M_receive_56 ⟨Nat.zero_le _, Nat.zero_le _⟩ ?_
      refine gj_istore (pc := 59) cx d_M_receive_59 (lo' := [(9, .int (nI ((x * 7 + b) * 5 + q - 1))), (8, .int (rObjC S n x y (nI k) (nI b) (nI q) pp)), (0, .ref (am 0)), (1, .int (nI x)), (2, .int (nI y)), (3, .int (nI k)), (4, .int (nI b)), (5, .int (nI q)), (6, .long pp)]) (by decide) rfl ?_
      refine gj_iload_n (pc := 61) cx d_M_receive_61 rfl (x := nI k) rfl ?_
      refine gj_if_neN (pc := 62) cx d_M_receive_62 (tgt := 87) rfl (by omega) (fun hb4 => ?_) (fun hb4 => ?_)
      · refine gj_aload_n (pc := 87) cx d_M_receive_87 rfl (x := am 0) rfl ?_
        refine gj_get (pc := 88) (ci := 2) (C := R_M) (T := T_M) (N := 15) (v := .ref (am 10)) cx hK gj_wP in_M d_M_receive_88 0 rfl rfl 12 (by decide) (in_WT wm_353) rfl ?_
        refine gj_iload_n (pc := 91) cx d_M_receive_91 rfl (x := nI x) rfl ?_
        refine gj_iload_n (pc := 92) cx d_M_receive_92 rfl (x := nI k) rfl ?_
        refine gj_iload (pc := 93) cx d_M_receive_93 (x := nI b) rfl ?_
        refine gj_iload (pc := 95) cx d_M_receive_95 (x := nI q) rfl ?_
        refine gj_iload_n (pc := 97) cx d_M_receive_97 rfl (x := nI y) rfl ?_
        refine gj_callSRi (pc := 98) (As := [.int (nI x), .int (nI k), .int (nI b), .int (nI q), .int (nI y)]) (rest := [.ref (am 10)]) (v := nI (((x * 3 + k - 1) * 35 + b * 5 + q - 1) * 7 + y)) cx hK (c_M_ear l D (tyl cI cJ) x k b q y (by omega) (by omega)) (va_cwS 5 cx.2.2.2.2 (good_S wm_427 wm_425 wm_426 wm_5) rfl rfl rfl (by decide +kernel) ⟨Nat.le_of_ble_eq_true rfl, Nat.le_of_ble_eq_true rfl⟩) (fun _ _ _ => gj_P0) rfl rfl (Nat.le_of_ble_eq_true rfl) d_M_receive_98 ⟨Nat.zero_le _, Nat.zero_le _⟩ ?_
        refine gj_lload (pc := 101) cx d_M_receive_101 (x := pp) rfl ?_
        refine gj_last (pc := 103) (i := ((x * 3 + k - 1) * 35 + b * 5 + q - 1) * 7 + y) (f := rHe S) (x := pp) (ws' := rW cI cJ am n f z (rSt S, rFu S, rSu S, rOw S, rEc S, rRe S, rAp S, rFr S, rMa S, va_up (rHe S) (((x * 3 + k - 1) * 35 + b * 5 + q - 1) * 7 + y) pp, rHm S, rAc S)) cx hK d_M_receive_103 10 1 rfl rfl (by omega) (by decide) rfl ?_
        obtain ⟨V, hV⟩ : ∃ V, V = rV S x y k b q pp := ⟨_, rfl⟩
        refine gj_eq (w' := rW cI cJ am n f z V) rfl rfl rfl (by rw [hV, rV]) ?_
        have hokV : rOk V := hV ▸ hok
        refine gj_cut (G := Gj p l e _ s m _ below meth c _ _ _ _ _) (σ := RS) (fun Z => rOk Z ∧ rTk S n f z x y k b q pp = rApy n z x 36 0 (if rAq Z n f x b q pp = true then rUpAc Z ((x * 7 + b) * 5 + q - 1) pp else Z)) 219 [(0, .ref (am 0)), (1, .int (nI x)), (4, .int (nI b)), (5, .int (nI q)), (6, .long pp), (9, .int (nI ((x * 7 + b) * 5 + q - 1)))] (fun Z => rW cI cJ am n f z Z) (fun Z hZ => ?_) (fun J => ?_)
        · obtain ⟨hokZ, hzz⟩ := hZ
          refine gj_aload_n (pc := 219) cx d_M_receive_219 rfl (x := am 0) rfl ?_
          refine gj_iload_n (pc := 220) cx d_M_receive_220 rfl (x := nI x) rfl ?_
          refine gj_iconst (pc := 221) cx d_M_receive_221 (v := nI 2) (by decide) ?_
          refine gj_iload (pc := 222) cx d_M_receive_222 (x := nI b) rfl ?_
          refine gj_iload (pc := 224) cx d_M_receive_224 (x := nI q) rfl ?_
          refine gj_lload (pc := 226) cx d_M_receive_226 (x := pp) rfl ?_
          refine gj_callVRi (pc := 228) (As := [.int (nI x), .int (nI 2), .int (nI b), .int (nI q), .long pp]) (rest := []) (v := nI (rMany Z n x 2 b q pp)) cx hK (c_M_many l D cI cJ am n f z Z x 2 b q pp (by omega) (by omega) (by omega) (by omega) (by omega) (by omega) (by omega)) (cwV 5 cx.2.2.2.2 (good_V wm_452 wm_450 wm_451 wm_569 wm_5) rfl rfl rfl (by decide +kernel) ⟨Nat.le_of_ble_eq_true rfl, Nat.le_of_ble_eq_true rfl⟩) gj_wP 0 2 rfl rfl rfl rfl rfl (Nat.le_of_ble_eq_true rfl) d_M_receive_228 ⟨Nat.zero_le _, Nat.zero_le _⟩ ?_
          have hv5 := rMany_lt Z n x 2 b q pp
          refine gj_iconst (pc := 231) cx d_M_receive_231 (v := nI 2) (by decide) ?_
          refine gj_aload_n (pc := 232) cx d_M_receive_232 rfl (x := am 0) rfl ?_
          refine gj_get (pc := 233) (ci := 2) (C := R_M) (T := T_M) (N := 15) (v := .int (nI f)) cx hK gj_wP in_M d_M_receive_233 0 rfl rfl 1 (by decide) (in_WT wm_342) rfl ?_
          refine gj_imulN (pc := 236) cx d_M_receive_236 ?_
          refine gj_iconst (pc := 237) cx d_M_receive_237 (v := nI 1) (by decide) ?_
          refine gj_iaddN (pc := 238) cx d_M_receive_238 ?_
          refine gj_icmp_geN (pc := 239) cx d_M_receive_239 (tgt := 263) rfl (by omega) (by omega) (fun hb6 => ?_) (fun hb6 => ?_)
          · refine gj_iconst (pc := 263) cx d_M_receive_263 (v := nI 1) (by decide) ?_
            refine gj_goto (pc := 264) cx d_M_receive_264 (tgt := 268) rfl ?_
            refine gj_istore (pc := 268) cx d_M_receive_268 (lo' := [(12, .int (nI 1)), (0, .ref (am 0)), (1, .int (nI x)), (4, .int (nI b)), (5, .int (nI q)), (6, .long pp), (9, .int (nI ((x * 7 + b) * 5 + q - 1)))]) (by decide) rfl ?_
            refine gj_iload (pc := 270) cx d_M_receive_270 (x := nI q) rfl ?_
            refine gj_aload_n (pc := 272) cx d_M_receive_272 rfl (x := am 0) rfl ?_
            refine gj_iload_n (pc := 273) cx d_M_receive_273 rfl (x := nI x) rfl ?_
            refine gj_iload (pc := 274) cx d_M_receive_274 (x := nI b) rfl ?_
            refine gj_callVRi (pc := 276) (As := [.int (nI x), .int (nI b)]) (rest := [.int (nI q)]) (v := nI (rCnt Z x b)) cx hK (c_M_count l D cI cJ am n f z Z x b (by omega) (by omega)) (cwV 2 cx.2.2.2.2 (good_V wm_455 wm_453 wm_454 wm_570 wm_5) rfl rfl rfl (by decide +kernel) ⟨Nat.le_of_ble_eq_true rfl, Nat.le_of_ble_eq_true rfl⟩) gj_wP 0 2 rfl rfl rfl rfl rfl (Nat.le_of_ble_eq_true rfl) d_M_receive_276 ⟨Nat.zero_le _, Nat.zero_le _⟩ ?_
            have hv7 := rCnt_lt Z x b
            refine gj_icmp_leN (pc := 279) cx d_M_receive_279 (tgt := 308) rfl (by omega) (by omega) (fun hb8 => ?_) (fun hb8 => ?_)
            · have haq : rAq Z n f x b q pp = false := by simp [rAq, hb6, hb8] <;> omega
              rw [haq, if_neg Bool.false_ne_true] at hzz
              refine gj_aload_n (pc := 308) cx d_M_receive_308 rfl (x := am 0) rfl ?_
              refine gj_iload_n (pc := 309) cx d_M_receive_309 rfl (x := nI x) rfl ?_
              refine gj_callVWi (pc := 310) (As := [.int (nI x)]) (rest := []) (v := (rApy n z x 36 0 Z).1) (ws' := rW cI cJ am n f z ((rApy n z x 36 0 Z).2)) cx hK hA (fun sz => c_M_apply l D cI cJ am n f z Z x (by omega) (by first | exact hokZ | exact ⟨hokZ.1, hokZ.2.1, hokZ.2.2.1, hokZ.2.2.2.1, hokZ.2.2.2.2.1, hokZ.2.2.2.2.2⟩) (by omega) sz) (cwV 1 cx.2.2.2.2 (good_V wm_458 wm_456 wm_457 wm_571 wm_5) rfl rfl rfl (by decide +kernel) ⟨Nat.le_of_ble_eq_true rfl, Nat.le_of_ble_eq_true rfl⟩) gj_J.self 0 2 rfl rfl rfl rfl rfl (Nat.le_of_ble_eq_true rfl) d_M_receive_310 ⟨Nat.zero_le _, Nat.zero_le _⟩ ?_
              exact gj_iretW (pc := 313) cx hr hlk d_M_receive_313 (by rw [hzz]) (by rw [hzz])
            · refine gj_aload_n (pc := 282) cx d_M_receive_282 rfl (x := am 0) rfl ?_
              refine gj_get (pc := 283) (ci := 2) (C := R_M) (T := T_M) (N := 15) (v := .ref (am 12)) cx hK gj_wP in_M d_M_receive_283 0 rfl rfl 14 (by decide) (in_WT wm_355) rfl ?_
              refine gj_iload (pc := 286) cx d_M_receive_286 (x := nI ((x * 7 + b) * 5 + q - 1)) rfl ?_
              refine gj_lald (pc := 288) (i := (x * 7 + b) * 5 + q - 1) (f := rAc Z) cx hK gj_wP d_M_receive_288 12 1 rfl rfl (by omega) (by decide) ?_
              refine gj_lconst (pc := 289) cx d_M_receive_289 (v := 0) (by decide) ?_
              refine gj_lcmp_ne (pc := 290) cx d_M_receive_290 d_M_receive_291 (tgt := 308) rfl (fun hb9 => ?_) (fun hb9 => ?_)
              · have haq : rAq Z n f x b q pp = false := by simp [rAq, hb6, hb8, hb9] <;> omega
                rw [haq, if_neg Bool.false_ne_true] at hzz
                refine gj_aload_n (pc := 308) cx d_M_receive_308 rfl (x := am 0) rfl ?_
                refine gj_iload_n (pc := 309) cx d_M_receive_309 rfl (x := nI x) rfl ?_
                refine gj_callVWi (pc := 310) (As := [.int (nI x)]) (rest := []) (v := (rApy n z x 36 0 Z).1) (ws' := rW cI cJ am n f z ((rApy n z x 36 0 Z).2)) cx hK hA (fun sz => c_M_apply l D cI cJ am n f z Z x (by omega) (by first | exact hokZ | exact ⟨hokZ.1, hokZ.2.1, hokZ.2.2.1, hokZ.2.2.2.1, hokZ.2.2.2.2.1, hokZ.2.2.2.2.2⟩) (by omega) sz) (cwV 1 cx.2.2.2.2 (good_V wm_458 wm_456 wm_457 wm_571 wm_5) rfl rfl rfl (by decide +kernel) ⟨Nat.le_of_ble_eq_true rfl, Nat.le_of_ble_eq_true rfl⟩) gj_J.self 0 2 rfl rfl rfl rfl rfl (Nat.le_of_ble_eq_true rfl) d_M_receive_310 ⟨Nat.zero_le _, Nat.zero_le _⟩ ?_
                exact gj_iretW (pc := 313) cx hr hlk d_M_receive_313 (by rw [hzz]) (by rw [hzz])
              · refine gj_iload (pc := 294) cx d_M_receive_294 (x := nI 1) rfl ?_
                refine gj_if_eqN (pc := 296) cx d_M_receive_296 (tgt := 308) rfl (by omega) (fun hb10 => absurd hb10 (by omega)) (fun hb10 => ?_)
                refine gj_aload_n (pc := 299) cx d_M_receive_299 rfl (x := am 0) rfl ?_
                refine gj_get (pc := 300) (ci := 2) (C := R_M) (T := T_M) (N := 15) (v := .ref (am 12)) cx hK gj_wP in_M d_M_receive_300 0 rfl rfl 14 (by decide) (in_WT wm_355) rfl ?_
                refine gj_iload (pc := 303) cx d_M_receive_303 (x := nI ((x * 7 + b) * 5 + q - 1)) rfl ?_
                refine gj_lload (pc := 305) cx d_M_receive_305 (x := pp) rfl ?_
                refine gj_last (pc := 307) (i := (x * 7 + b) * 5 + q - 1) (f := rAc Z) (x := pp) (ws' := rW cI cJ am n f z (rSt Z, rFu Z, rSu Z, rOw Z, rEc Z, rRe Z, rAp Z, rFr Z, rMa Z, rHe Z, rHm Z, va_up (rAc Z) ((x * 7 + b) * 5 + q - 1) pp)) cx hK d_M_receive_307 12 1 rfl rfl (by omega) (by decide) rfl ?_
                have haq : rAq Z n f x b q pp = true := by simp [rAq, hb6, hb8, hb9, hb10] <;> omega
                rw [haq, if_pos rfl, rUpAc] at hzz
                refine gj_aload_n (pc := 308) cx d_M_receive_308 rfl (x := am 0) rfl ?_
                refine gj_iload_n (pc := 309) cx d_M_receive_309 rfl (x := nI x) rfl ?_
                refine gj_callVWi (pc := 310) (As := [.int (nI x)]) (rest := []) (v := (rApy n z x 36 0 (rSt Z, rFu Z, rSu Z, rOw Z, rEc Z, rRe Z, rAp Z, rFr Z, rMa Z, rHe Z, rHm Z, va_up (rAc Z) ((x * 7 + b) * 5 + q - 1) pp)).1) (ws' := rW cI cJ am n f z ((rApy n z x 36 0 (rSt Z, rFu Z, rSu Z, rOw Z, rEc Z, rRe Z, rAp Z, rFr Z, rMa Z, rHe Z, rHm Z, va_up (rAc Z) ((x * 7 + b) * 5 + q - 1) pp)).2)) cx hK hA (fun sz => c_M_apply l D cI cJ am n f z (rSt Z, rFu Z, rSu Z, rOw Z, rEc Z, rRe Z, rAp Z, rFr Z, rMa Z, rHe Z, rHm Z, va_up (rAc Z) ((x * 7 + b) * 5 + q - 1) pp) x (by omega) (by first | exact hokZ | exact ⟨hokZ.1, hokZ.2.1, hokZ.2.2.1, hokZ.2.2.2.1, hokZ.2.2.2.2.1, hokZ.2.2.2.2.2⟩) (by omega) sz) (cwV 1 cx.2.2.2.2 (good_V wm_458 wm_456 wm_457 wm_571 wm_5) rfl rfl rfl (by decide +kernel) ⟨Nat.le_of_ble_eq_true rfl, Nat.le_of_ble_eq_true rfl⟩) gj_J.self 0 2 rfl rfl rfl rfl rfl (Nat.le_of_ble_eq_true rfl) d_M_receive_310 ⟨Nat.zero_le _, Nat.zero_le _⟩ ?_
                exact gj_iretW (pc := 313) cx hr hlk d_M_receive_313 (by rw [hzz]) (by rw [hzz])
          · refine gj_aload_n (pc := 242) cx d_M_receive_242 rfl (x := am 0) rfl ?_
            refine gj_iload_n (pc := 243) cx d_M_receive_243 rfl (x := nI x) rfl ?_
            refine gj_iconst (pc := 244) cx d_M_receive_244 (v := nI 3) (by decide) ?_
            refine gj_iload (pc := 245) cx d_M_receive_245 (x := nI b) rfl ?_
            refine gj_iload (pc := 247) cx d_M_receive_247 (x := nI q) rfl ?_
            refine gj_lload (pc := 249) cx d_M_receive_249 (x := pp) rfl ?_
            refine gj_callVRi (pc := 251) (As := [.int (nI x), .int (nI 3), .int (nI b), .int (nI q), .long pp]) (rest := []) (v := nI (rMany Z n x 3 b q pp)) cx hK (c_M_many l D cI cJ am n f z Z x 3 b q pp (by omega) (by omega) (by omega) (by omega) (by omega) (by omega) (by omega)) (cwV 5 cx.2.2.2.2 (good_V wm_452 wm_450 wm_451 wm_569 wm_5) rfl rfl rfl (by decide +kernel) ⟨Nat.le_of_ble_eq_true rfl, Nat.le_of_ble_eq_true rfl⟩) gj_wP 0 2 rfl rfl rfl rfl rfl (Nat.le_of_ble_eq_true rfl) d_M_receive_251 ⟨Nat.zero_le _, Nat.zero_le _⟩ ?_
            have hv11 := rMany_lt Z n x 3 b q pp
            refine gj_aload_n (pc := 254) cx d_M_receive_254 rfl (x := am 0) rfl ?_
            refine gj_get (pc := 255) (ci := 2) (C := R_M) (T := T_M) (N := 15) (v := .int (nI f)) cx hK gj_wP in_M d_M_receive_255 0 rfl rfl 1 (by decide) (in_WT wm_342) rfl ?_
            refine gj_iconst (pc := 258) cx d_M_receive_258 (v := nI 1) (by decide) ?_
            refine gj_iaddN (pc := 259) cx d_M_receive_259 ?_
            refine gj_icmp_ltN (pc := 260) cx d_M_receive_260 (tgt := 267) rfl (by omega) (by omega) (fun hb12 => ?_) (fun hb12 => ?_)
            · refine gj_iconst (pc := 267) cx d_M_receive_267 (v := nI 0) (by decide) ?_
              refine gj_istore (pc := 268) cx d_M_receive_268 (lo' := [(12, .int (nI 0)), (0, .ref (am 0)), (1, .int (nI x)), (4, .int (nI b)), (5, .int (nI q)), (6, .long pp), (9, .int (nI ((x * 7 + b) * 5 + q - 1)))]) (by decide) rfl ?_
              refine gj_iload (pc := 270) cx d_M_receive_270 (x := nI q) rfl ?_
              refine gj_aload_n (pc := 272) cx d_M_receive_272 rfl (x := am 0) rfl ?_
              refine gj_iload_n (pc := 273) cx d_M_receive_273 rfl (x := nI x) rfl ?_
              refine gj_iload (pc := 274) cx d_M_receive_274 (x := nI b) rfl ?_
              refine gj_callVRi (pc := 276) (As := [.int (nI x), .int (nI b)]) (rest := [.int (nI q)]) (v := nI (rCnt Z x b)) cx hK (c_M_count l D cI cJ am n f z Z x b (by omega) (by omega)) (cwV 2 cx.2.2.2.2 (good_V wm_455 wm_453 wm_454 wm_570 wm_5) rfl rfl rfl (by decide +kernel) ⟨Nat.le_of_ble_eq_true rfl, Nat.le_of_ble_eq_true rfl⟩) gj_wP 0 2 rfl rfl rfl rfl rfl (Nat.le_of_ble_eq_true rfl) d_M_receive_276 ⟨Nat.zero_le _, Nat.zero_le _⟩ ?_
              have hv13 := rCnt_lt Z x b
              refine gj_icmp_leN (pc := 279) cx d_M_receive_279 (tgt := 308) rfl (by omega) (by omega) (fun hb14 => ?_) (fun hb14 => ?_)
              · have haq : rAq Z n f x b q pp = false := by simp [rAq, hb6, hb12, hb14] <;> omega
                rw [haq, if_neg Bool.false_ne_true] at hzz
                refine gj_aload_n (pc := 308) cx d_M_receive_308 rfl (x := am 0) rfl ?_
                refine gj_iload_n (pc := 309) cx d_M_receive_309 rfl (x := nI x) rfl ?_
                refine gj_callVWi (pc := 310) (As := [.int (nI x)]) (rest := []) (v := (rApy n z x 36 0 Z).1) (ws' := rW cI cJ am n f z ((rApy n z x 36 0 Z).2)) cx hK hA (fun sz => c_M_apply l D cI cJ am n f z Z x (by omega) (by first | exact hokZ | exact ⟨hokZ.1, hokZ.2.1, hokZ.2.2.1, hokZ.2.2.2.1, hokZ.2.2.2.2.1, hokZ.2.2.2.2.2⟩) (by omega) sz) (cwV 1 cx.2.2.2.2 (good_V wm_458 wm_456 wm_457 wm_571 wm_5) rfl rfl rfl (by decide +kernel) ⟨Nat.le_of_ble_eq_true rfl, Nat.le_of_ble_eq_true rfl⟩) gj_J.self 0 2 rfl rfl rfl rfl rfl (Nat.le_of_ble_eq_true rfl) d_M_receive_310 ⟨Nat.zero_le _, Nat.zero_le _⟩ ?_
                exact gj_iretW (pc := 313) cx hr hlk d_M_receive_313 (by rw [hzz]) (by rw [hzz])
              · refine gj_aload_n (pc := 282) cx d_M_receive_282 rfl (x := am 0) rfl ?_
                refine gj_get (pc := 283) (ci := 2) (C := R_M) (T := T_M) (N := 15) (v := .ref (am 12)) cx hK gj_wP in_M d_M_receive_283 0 rfl rfl 14 (by decide) (in_WT wm_355) rfl ?_
                refine gj_iload (pc := 286) cx d_M_receive_286 (x := nI ((x * 7 + b) * 5 + q - 1)) rfl ?_
                refine gj_lald (pc := 288) (i := (x * 7 + b) * 5 + q - 1) (f := rAc Z) cx hK gj_wP d_M_receive_288 12 1 rfl rfl (by omega) (by decide) ?_
                refine gj_lconst (pc := 289) cx d_M_receive_289 (v := 0) (by decide) ?_
                refine gj_lcmp_ne (pc := 290) cx d_M_receive_290 d_M_receive_291 (tgt := 308) rfl (fun hb15 => ?_) (fun hb15 => ?_)
                · have haq : rAq Z n f x b q pp = false := by simp [rAq, hb6, hb12, hb14, hb15] <;> omega
                  rw [haq, if_neg Bool.false_ne_true] at hzz
                  refine gj_aload_n (pc := 308) cx d_M_receive_308 rfl (x := am 0) rfl ?_
                  refine gj_iload_n (pc := 309) cx d_M_receive_309 rfl (x := nI x) rfl ?_
                  refine gj_callVWi (pc := 310) (As := [.int (nI x)]) (rest := []) (v := (rApy n z x 36 0 Z).1) (ws' := rW cI cJ am n f z ((rApy n z x 36 0 Z).2)) cx hK hA (fun sz => c_M_apply l D cI cJ am n f z Z x (by omega) (by first | exact hokZ | exact ⟨hokZ.1, hokZ.2.1, hokZ.2.2.1, hokZ.2.2.2.1, hokZ.2.2.2.2.1, hokZ.2.2.2.2.2⟩) (by omega) sz) (cwV 1 cx.2.2.2.2 (good_V wm_458 wm_456 wm_457 wm_571 wm_5) rfl rfl rfl (by decide +kernel) ⟨Nat.le_of_ble_eq_true rfl, Nat.le_of_ble_eq_true rfl⟩) gj_J.self 0 2 rfl rfl rfl rfl rfl (Nat.le_of_ble_eq_true rfl) d_M_receive_310 ⟨Nat.zero_le _, Nat.zero_le _⟩ ?_
                  exact gj_iretW (pc := 313) cx hr hlk d_M_receive_313 (by rw [hzz]) (by rw [hzz])
                · refine gj_iload (pc := 294) cx d_M_receive_294 (x := nI 0) rfl ?_
                  refine gj_if_eqN (pc := 296) cx d_M_receive_296 (tgt := 308) rfl (by omega) (fun hb16 => ?_) (fun hb16 => absurd hb16 (by omega))
                  have haq : rAq Z n f x b q pp = false := by simp [rAq, hb6, hb12, hb14, hb15, hb16] <;> omega
                  rw [haq, if_neg Bool.false_ne_true] at hzz
                  refine gj_aload_n (pc := 308) cx d_M_receive_308 rfl (x := am 0) rfl ?_
                  refine gj_iload_n (pc := 309) cx d_M_receive_309 rfl (x := nI x) rfl ?_
                  refine gj_callVWi (pc := 310) (As := [.int (nI x)]) (rest := []) (v := (rApy n z x 36 0 Z).1) (ws' := rW cI cJ am n f z ((rApy n z x 36 0 Z).2)) cx hK hA (fun sz => c_M_apply l D cI cJ am n f z Z x (by omega) (by first | exact hokZ | exact ⟨hokZ.1, hokZ.2.1, hokZ.2.2.1, hokZ.2.2.2.1, hokZ.2.2.2.2.1, hokZ.2.2.2.2.2⟩) (by omega) sz) (cwV 1 cx.2.2.2.2 (good_V wm_458 wm_456 wm_457 wm_571 wm_5) rfl rfl rfl (by decide +kernel) ⟨Nat.le_of_ble_eq_true rfl, Nat.le_of_ble_eq_true rfl⟩) gj_J.self 0 2 rfl rfl rfl rfl rfl (Nat.le_of_ble_eq_true rfl) d_M_receive_310 ⟨Nat.zero_le _, Nat.zero_le _⟩ ?_
                  exact gj_iretW (pc := 313) cx hr hlk d_M_receive_313 (by rw [hzz]) (by rw [hzz])
            · refine gj_iconst (pc := 263) cx d_M_receive_263 (v := nI 1) (by decide) ?_
              refine gj_goto (pc := 264) cx d_M_receive_264 (tgt := 268) rfl ?_
              refine gj_istore (pc := 268) cx d_M_receive_268 (lo' := [(12, .int (nI 1)), (0, .ref (am 0)), (1, .int (nI x)), (4, .int (nI b)), (5, .int (nI q)), (6, .long pp), (9, .int (nI ((x * 7 + b) * 5 + q - 1)))]) (by decide) rfl ?_
              refine gj_iload (pc := 270) cx d_M_receive_270 (x := nI q) rfl ?_
              refine gj_aload_n (pc := 272) cx d_M_receive_272 rfl (x := am 0) rfl ?_
              refine gj_iload_n (pc := 273) cx d_M_receive_273 rfl (x := nI x) rfl ?_
              refine gj_iload (pc := 274) cx d_M_receive_274 (x := nI b) rfl ?_
              refine gj_callVRi (pc := 276) (As := [.int (nI x), .int (nI b)]) (rest := [.int (nI q)]) (v := nI (rCnt Z x b)) cx hK (c_M_count l D cI cJ am n f z Z x b (by omega) (by omega)) (cwV 2 cx.2.2.2.2 (good_V wm_455 wm_453 wm_454 wm_570 wm_5) rfl rfl rfl (by decide +kernel) ⟨Nat.le_of_ble_eq_true rfl, Nat.le_of_ble_eq_true rfl⟩) gj_wP 0 2 rfl rfl rfl rfl rfl (Nat.le_of_ble_eq_true rfl) d_M_receive_276 ⟨Nat.zero_le _, Nat.zero_le _⟩ ?_
              have hv17 := rCnt_lt Z x b
              refine gj_icmp_leN (pc := 279) cx d_M_receive_279 (tgt := 308) rfl (by omega) (by omega) (fun hb18 => ?_) (fun hb18 => ?_)
              · have haq : rAq Z n f x b q pp = false := by simp [rAq, hb6, hb12, hb18] <;> omega
                rw [haq, if_neg Bool.false_ne_true] at hzz
                refine gj_aload_n (pc := 308) cx d_M_receive_308 rfl (x := am 0) rfl ?_
                refine gj_iload_n (pc := 309) cx d_M_receive_309 rfl (x := nI x) rfl ?_
                refine gj_callVWi (pc := 310) (As := [.int (nI x)]) (rest := []) (v := (rApy n z x 36 0 Z).1) (ws' := rW cI cJ am n f z ((rApy n z x 36 0 Z).2)) cx hK hA (fun sz => c_M_apply l D cI cJ am n f z Z x (by omega) (by first | exact hokZ | exact ⟨hokZ.1, hokZ.2.1, hokZ.2.2.1, hokZ.2.2.2.1, hokZ.2.2.2.2.1, hokZ.2.2.2.2.2⟩) (by omega) sz) (cwV 1 cx.2.2.2.2 (good_V wm_458 wm_456 wm_457 wm_571 wm_5) rfl rfl rfl (by decide +kernel) ⟨Nat.le_of_ble_eq_true rfl, Nat.le_of_ble_eq_true rfl⟩) gj_J.self 0 2 rfl rfl rfl rfl rfl (Nat.le_of_ble_eq_true rfl) d_M_receive_310 ⟨Nat.zero_le _, Nat.zero_le _⟩ ?_
                exact gj_iretW (pc := 313) cx hr hlk d_M_receive_313 (by rw [hzz]) (by rw [hzz])
              · refine gj_aload_n (pc := 282) cx d_M_receive_282 rfl (x := am 0) rfl ?_
                refine gj_get (pc := 283) (ci := 2) (C := R_M) (T := T_M) (N := 15) (v := .ref (am 12)) cx hK gj_wP in_M d_M_receive_283 0 rfl rfl 14 (by decide) (in_WT wm_355) rfl ?_
                refine gj_iload (pc := 286) cx d_M_receive_286 (x := nI ((x * 7 + b) * 5 + q - 1)) rfl ?_
                refine gj_lald (pc := 288) (i := (x * 7 + b) * 5 + q - 1) (f := rAc Z) cx hK gj_wP d_M_receive_288 12 1 rfl rfl (by omega) (by decide) ?_
                refine gj_lconst (pc := 289) cx d_M_receive_289 (v := 0) (by decide) ?_
                refine gj_lcmp_ne (pc := 290) cx d_M_receive_290 d_M_receive_291 (tgt := 308) rfl (fun hb19 => ?_) (fun hb19 => ?_)
                · have haq : rAq Z n f x b q pp = false := by simp [rAq, hb6, hb12, hb18, hb19] <;> omega
                  rw [haq, if_neg Bool.false_ne_true] at hzz
                  refine gj_aload_n (pc := 308) cx d_M_receive_308 rfl (x := am 0) rfl ?_
                  refine gj_iload_n (pc := 309) cx d_M_receive_309 rfl (x := nI x) rfl ?_
                  refine gj_callVWi (pc := 310) (As := [.int (nI x)]) (rest := []) (v := (rApy n z x 36 0 Z).1) (ws' := rW cI cJ am n f z ((rApy n z x 36 0 Z).2)) cx hK hA (fun sz => c_M_apply l D cI cJ am n f z Z x (by omega) (by first | exact hokZ | exact ⟨hokZ.1, hokZ.2.1, hokZ.2.2.1, hokZ.2.2.2.1, hokZ.2.2.2.2.1, hokZ.2.2.2.2.2⟩) (by omega) sz) (cwV 1 cx.2.2.2.2 (good_V wm_458 wm_456 wm_457 wm_571 wm_5) rfl rfl rfl (by decide +kernel) ⟨Nat.le_of_ble_eq_true rfl, Nat.le_of_ble_eq_true rfl⟩) gj_J.self 0 2 rfl rfl rfl rfl rfl (Nat.le_of_ble_eq_true rfl) d_M_receive_310 ⟨Nat.zero_le _, Nat.zero_le _⟩ ?_
                  exact gj_iretW (pc := 313) cx hr hlk d_M_receive_313 (by rw [hzz]) (by rw [hzz])
                · refine gj_iload (pc := 294) cx d_M_receive_294 (x := nI 1) rfl ?_
                  refine gj_if_eqN (pc := 296) cx d_M_receive_296 (tgt := 308) rfl (by omega) (fun hb20 => absurd hb20 (by omega)) (fun hb20 => ?_)
                  refine gj_aload_n (pc := 299) cx d_M_receive_299 rfl (x := am 0) rfl ?_
                  refine gj_get (pc := 300) (ci := 2) (C := R_M) (T := T_M) (N := 15) (v := .ref (am 12)) cx hK gj_wP in_M d_M_receive_300 0 rfl rfl 14 (by decide) (in_WT wm_355) rfl ?_
                  refine gj_iload (pc := 303) cx d_M_receive_303 (x := nI ((x * 7 + b) * 5 + q - 1)) rfl ?_
                  refine gj_lload (pc := 305) cx d_M_receive_305 (x := pp) rfl ?_
                  refine gj_last (pc := 307) (i := (x * 7 + b) * 5 + q - 1) (f := rAc Z) (x := pp) (ws' := rW cI cJ am n f z (rSt Z, rFu Z, rSu Z, rOw Z, rEc Z, rRe Z, rAp Z, rFr Z, rMa Z, rHe Z, rHm Z, va_up (rAc Z) ((x * 7 + b) * 5 + q - 1) pp)) cx hK d_M_receive_307 12 1 rfl rfl (by omega) (by decide) rfl ?_
                  have haq : rAq Z n f x b q pp = true := by simp [rAq, hb6, hb12, hb18, hb19, hb20] <;> omega
                  rw [haq, if_pos rfl, rUpAc] at hzz
                  refine gj_aload_n (pc := 308) cx d_M_receive_308 rfl (x := am 0) rfl ?_
                  refine gj_iload_n (pc := 309) cx d_M_receive_309 rfl (x := nI x) rfl ?_
                  refine gj_callVWi (pc := 310) (As := [.int (nI x)]) (rest := []) (v := (rApy n z x 36 0 (rSt Z, rFu Z, rSu Z, rOw Z, rEc Z, rRe Z, rAp Z, rFr Z, rMa Z, rHe Z, rHm Z, va_up (rAc Z) ((x * 7 + b) * 5 + q - 1) pp)).1) (ws' := rW cI cJ am n f z ((rApy n z x 36 0 (rSt Z, rFu Z, rSu Z, rOw Z, rEc Z, rRe Z, rAp Z, rFr Z, rMa Z, rHe Z, rHm Z, va_up (rAc Z) ((x * 7 + b) * 5 + q - 1) pp)).2)) cx hK hA (fun sz => c_M_apply l D cI cJ am n f z (rSt Z, rFu Z, rSu Z, rOw Z, rEc Z, rRe Z, rAp Z, rFr Z, rMa Z, rHe Z, rHm Z, va_up (rAc Z) ((x * 7 + b) * 5 + q - 1) pp) x (by omega) (by first | exact hokZ | exact ⟨hokZ.1, hokZ.2.1, hokZ.2.2.1, hokZ.2.2.2.1, hokZ.2.2.2.2.1, hokZ.2.2.2.2.2⟩) (by omega) sz) (cwV 1 cx.2.2.2.2 (good_V wm_458 wm_456 wm_457 wm_571 wm_5) rfl rfl rfl (by decide +kernel) ⟨Nat.le_of_ble_eq_true rfl, Nat.le_of_ble_eq_true rfl⟩) gj_J.self 0 2 rfl rfl rfl rfl rfl (Nat.le_of_ble_eq_true rfl) d_M_receive_310 ⟨Nat.zero_le _, Nat.zero_le _⟩ ?_
                  exact gj_iretW (pc := 313) cx hr hlk d_M_receive_313 (by rw [hzz]) (by rw [hzz])
        · skip
          refine gj_iload_n (pc := 104) cx d_M_receive_104 rfl (x := nI k) rfl ?_
          refine gj_iconst (pc := 105) cx d_M_receive_105 (v := nI 1) (by decide) ?_
          refine gj_icmp_neN (pc := 106) cx d_M_receive_106 (tgt := 141) rfl (by omega) (by omega) (fun hb21 => ?_) (fun hb21 => ?_)
          · refine gj_iconst (pc := 141) cx d_M_receive_141 (v := nI 0) (by decide) ?_
            refine gj_istore (pc := 142) cx d_M_receive_142 (lo' := [(10, .int (nI 0)), (9, .int (nI ((x * 7 + b) * 5 + q - 1))), (8, .int (rObjC S n x y (nI k) (nI b) (nI q) pp)), (0, .ref (am 0)), (1, .int (nI x)), (2, .int (nI y)), (3, .int (nI k)), (4, .int (nI b)), (5, .int (nI q)), (6, .long pp)]) (by decide) rfl ?_
            refine gj_iload_n (pc := 144) cx d_M_receive_144 rfl (x := nI k) rfl ?_
            refine gj_iconst (pc := 145) cx d_M_receive_145 (v := nI 2) (by decide) ?_
            refine gj_icmp_neN (pc := 146) cx d_M_receive_146 (tgt := 174) rfl (by omega) (by omega) (fun hb22 => ?_) (fun hb22 => ?_)
            · refine gj_iconst (pc := 174) cx d_M_receive_174 (v := nI 0) (by decide) ?_
              refine gj_istore (pc := 175) cx d_M_receive_175 (lo' := [(11, .int (nI 0)), (10, .int (nI 0)), (9, .int (nI ((x * 7 + b) * 5 + q - 1))), (8, .int (rObjC S n x y (nI k) (nI b) (nI q) pp)), (0, .ref (am 0)), (1, .int (nI x)), (2, .int (nI y)), (3, .int (nI k)), (4, .int (nI b)), (5, .int (nI q)), (6, .long pp)]) (by decide) rfl ?_
              refine gj_aload_n (pc := 177) cx d_M_receive_177 rfl (x := am 0) rfl ?_
              refine gj_get (pc := 178) (ci := 2) (C := R_M) (T := T_M) (N := 15) (v := .ref (am 6)) cx hK gj_wP in_M d_M_receive_178 0 rfl rfl 8 (by decide) (in_WT wm_349) rfl ?_
              refine gj_iload (pc := 181) cx d_M_receive_181 (x := nI ((x * 7 + b) * 5 + q - 1)) rfl ?_
              refine gj_lald (pc := 183) (i := (x * 7 + b) * 5 + q - 1) (f := rRe V) cx hK gj_wP d_M_receive_183 6 1 rfl rfl (by omega) (by decide) ?_
              refine gj_lconst (pc := 184) cx d_M_receive_184 (v := 0) (by decide) ?_
              refine gj_lcmp_ne (pc := 185) cx d_M_receive_185 d_M_receive_186 (tgt := 219) rfl (fun hb23 => ?_) (fun hb23 => ?_)
              · refine gj_pick (lo' := [(0, .ref (am 0)), (1, .int (nI x)), (4, .int (nI b)), (5, .int (nI q)), (6, .long pp), (9, .int (nI ((x * 7 + b) * 5 + q - 1)))]) [4, 5, 8, 9, 10, 2] rfl ?_
                have hrd : rRdy V n f x k b q pp = false := by simp [rRdy, hb21, hb22, hb23] <;> omega
                exact J V ⟨hokV, rTk_3 hV hb4 (Or.inr ⟨hrd, rfl⟩)⟩
              · refine gj_iload (pc := 189) cx d_M_receive_189 (x := nI 0) rfl ?_
                refine gj_if_neN (pc := 191) cx d_M_receive_191 (tgt := 199) rfl (by omega) (fun hb24 => absurd hb24 (by omega)) (fun hb24 => ?_)
                refine gj_iload (pc := 194) cx d_M_receive_194 (x := nI 0) rfl ?_
                refine gj_if_eqN (pc := 196) cx d_M_receive_196 (tgt := 219) rfl (by omega) (fun hb25 => ?_) (fun hb25 => absurd hb25 (by omega))
                refine gj_pick (lo' := [(0, .ref (am 0)), (1, .int (nI x)), (4, .int (nI b)), (5, .int (nI q)), (6, .long pp), (9, .int (nI ((x * 7 + b) * 5 + q - 1)))]) [4, 5, 8, 9, 10, 2] rfl ?_
                have hrd : rRdy V n f x k b q pp = false := by simp [rRdy, hb21, hb22, hb23, hb24, hb25] <;> omega
                exact J V ⟨hokV, rTk_3 hV hb4 (Or.inr ⟨hrd, rfl⟩)⟩
            · refine gj_aload_n (pc := 149) cx d_M_receive_149 rfl (x := am 0) rfl ?_
              refine gj_iload_n (pc := 150) cx d_M_receive_150 rfl (x := nI x) rfl ?_
              refine gj_iconst (pc := 151) cx d_M_receive_151 (v := nI 2) (by decide) ?_
              refine gj_iload (pc := 152) cx d_M_receive_152 (x := nI b) rfl ?_
              refine gj_iload (pc := 154) cx d_M_receive_154 (x := nI q) rfl ?_
              refine gj_lload (pc := 156) cx d_M_receive_156 (x := pp) rfl ?_
              refine gj_callVRi (pc := 158) (As := [.int (nI x), .int (nI 2), .int (nI b), .int (nI q), .long pp]) (rest := []) (v := nI (rMany V n x 2 b q pp)) cx hK (c_M_many l D cI cJ am n f z V x 2 b q pp (by omega) (by omega) (by omega) (by omega) (by omega) (by omega) (by omega)) (cwV 5 cx.2.2.2.2 (good_V wm_452 wm_450 wm_451 wm_569 wm_5) rfl rfl rfl (by decide +kernel) ⟨Nat.le_of_ble_eq_true rfl, Nat.le_of_ble_eq_true rfl⟩) gj_wP 0 2 rfl rfl rfl rfl rfl (Nat.le_of_ble_eq_true rfl) d_M_receive_158 ⟨Nat.zero_le _, Nat.zero_le _⟩ ?_
              have hv26 := rMany_lt V n x 2 b q pp
              refine gj_aload_n (pc := 161) cx d_M_receive_161 rfl (x := am 0) rfl ?_
              refine gj_get (pc := 162) (ci := 2) (C := R_M) (T := T_M) (N := 15) (v := .int (nI f)) cx hK gj_wP in_M d_M_receive_162 0 rfl rfl 1 (by decide) (in_WT wm_342) rfl ?_
              refine gj_iconst (pc := 165) cx d_M_receive_165 (v := nI 1) (by decide) ?_
              refine gj_iaddN (pc := 166) cx d_M_receive_166 ?_
              refine gj_icmp_ltN (pc := 167) cx d_M_receive_167 (tgt := 174) rfl (by omega) (by omega) (fun hb27 => ?_) (fun hb27 => ?_)
              · refine gj_iconst (pc := 174) cx d_M_receive_174 (v := nI 0) (by decide) ?_
                refine gj_istore (pc := 175) cx d_M_receive_175 (lo' := [(11, .int (nI 0)), (10, .int (nI 0)), (9, .int (nI ((x * 7 + b) * 5 + q - 1))), (8, .int (rObjC S n x y (nI k) (nI b) (nI q) pp)), (0, .ref (am 0)), (1, .int (nI x)), (2, .int (nI y)), (3, .int (nI k)), (4, .int (nI b)), (5, .int (nI q)), (6, .long pp)]) (by decide) rfl ?_
                refine gj_aload_n (pc := 177) cx d_M_receive_177 rfl (x := am 0) rfl ?_
                refine gj_get (pc := 178) (ci := 2) (C := R_M) (T := T_M) (N := 15) (v := .ref (am 6)) cx hK gj_wP in_M d_M_receive_178 0 rfl rfl 8 (by decide) (in_WT wm_349) rfl ?_
                refine gj_iload (pc := 181) cx d_M_receive_181 (x := nI ((x * 7 + b) * 5 + q - 1)) rfl ?_
                refine gj_lald (pc := 183) (i := (x * 7 + b) * 5 + q - 1) (f := rRe V) cx hK gj_wP d_M_receive_183 6 1 rfl rfl (by omega) (by decide) ?_
                refine gj_lconst (pc := 184) cx d_M_receive_184 (v := 0) (by decide) ?_
                refine gj_lcmp_ne (pc := 185) cx d_M_receive_185 d_M_receive_186 (tgt := 219) rfl (fun hb28 => ?_) (fun hb28 => ?_)
                · refine gj_pick (lo' := [(0, .ref (am 0)), (1, .int (nI x)), (4, .int (nI b)), (5, .int (nI q)), (6, .long pp), (9, .int (nI ((x * 7 + b) * 5 + q - 1)))]) [4, 5, 8, 9, 10, 2] rfl ?_
                  have hrd : rRdy V n f x k b q pp = false := by simp [rRdy, hb21, hb22, hb27, hb28] <;> omega
                  exact J V ⟨hokV, rTk_3 hV hb4 (Or.inr ⟨hrd, rfl⟩)⟩
                · refine gj_iload (pc := 189) cx d_M_receive_189 (x := nI 0) rfl ?_
                  refine gj_if_neN (pc := 191) cx d_M_receive_191 (tgt := 199) rfl (by omega) (fun hb29 => absurd hb29 (by omega)) (fun hb29 => ?_)
                  refine gj_iload (pc := 194) cx d_M_receive_194 (x := nI 0) rfl ?_
                  refine gj_if_eqN (pc := 196) cx d_M_receive_196 (tgt := 219) rfl (by omega) (fun hb30 => ?_) (fun hb30 => absurd hb30 (by omega))
                  refine gj_pick (lo' := [(0, .ref (am 0)), (1, .int (nI x)), (4, .int (nI b)), (5, .int (nI q)), (6, .long pp), (9, .int (nI ((x * 7 + b) * 5 + q - 1)))]) [4, 5, 8, 9, 10, 2] rfl ?_
                  have hrd : rRdy V n f x k b q pp = false := by simp [rRdy, hb21, hb22, hb27, hb28, hb29, hb30] <;> omega
                  exact J V ⟨hokV, rTk_3 hV hb4 (Or.inr ⟨hrd, rfl⟩)⟩
              · refine gj_iconst (pc := 170) cx d_M_receive_170 (v := nI 1) (by decide) ?_
                refine gj_goto (pc := 171) cx d_M_receive_171 (tgt := 175) rfl ?_
                refine gj_istore (pc := 175) cx d_M_receive_175 (lo' := [(11, .int (nI 1)), (10, .int (nI 0)), (9, .int (nI ((x * 7 + b) * 5 + q - 1))), (8, .int (rObjC S n x y (nI k) (nI b) (nI q) pp)), (0, .ref (am 0)), (1, .int (nI x)), (2, .int (nI y)), (3, .int (nI k)), (4, .int (nI b)), (5, .int (nI q)), (6, .long pp)]) (by decide) rfl ?_
                refine gj_aload_n (pc := 177) cx d_M_receive_177 rfl (x := am 0) rfl ?_
                refine gj_get (pc := 178) (ci := 2) (C := R_M) (T := T_M) (N := 15) (v := .ref (am 6)) cx hK gj_wP in_M d_M_receive_178 0 rfl rfl 8 (by decide) (in_WT wm_349) rfl ?_
                refine gj_iload (pc := 181) cx d_M_receive_181 (x := nI ((x * 7 + b) * 5 + q - 1)) rfl ?_
                refine gj_lald (pc := 183) (i := (x * 7 + b) * 5 + q - 1) (f := rRe V) cx hK gj_wP d_M_receive_183 6 1 rfl rfl (by omega) (by decide) ?_
                refine gj_lconst (pc := 184) cx d_M_receive_184 (v := 0) (by decide) ?_
                refine gj_lcmp_ne (pc := 185) cx d_M_receive_185 d_M_receive_186 (tgt := 219) rfl (fun hb31 => ?_) (fun hb31 => ?_)
                · refine gj_pick (lo' := [(0, .ref (am 0)), (1, .int (nI x)), (4, .int (nI b)), (5, .int (nI q)), (6, .long pp), (9, .int (nI ((x * 7 + b) * 5 + q - 1)))]) [4, 5, 8, 9, 10, 2] rfl ?_
                  have hrd : rRdy V n f x k b q pp = false := by simp [rRdy, hb21, hb22, hb27, hb31] <;> omega
                  exact J V ⟨hokV, rTk_3 hV hb4 (Or.inr ⟨hrd, rfl⟩)⟩
                · refine gj_iload (pc := 189) cx d_M_receive_189 (x := nI 0) rfl ?_
                  refine gj_if_neN (pc := 191) cx d_M_receive_191 (tgt := 199) rfl (by omega) (fun hb32 => absurd hb32 (by omega)) (fun hb32 => ?_)
                  refine gj_iload (pc := 194) cx d_M_receive_194 (x := nI 1) rfl ?_
                  refine gj_if_eqN (pc := 196) cx d_M_receive_196 (tgt := 219) rfl (by omega) (fun hb33 => absurd hb33 (by omega)) (fun hb33 => ?_)
                  refine gj_aload_n (pc := 199) cx d_M_receive_199 rfl (x := am 0) rfl ?_
                  refine gj_iload_n (pc := 200) cx d_M_receive_200 rfl (x := nI x) rfl ?_
                  refine gj_callVWi (pc := 201) (As := [.int (nI x)]) (rest := []) (v := bI (rBn V x)) (ws' := rW cI cJ am n f z (rBurn V x)) cx hK hA (fun sz => c_M_burns l D cI cJ am n f z V x (by omega) (hokV) sz) (cwV 1 cx.2.2.2.2 (good_V wm_446 wm_444 wm_445 wm_567 wm_5) rfl rfl rfl (by decide +kernel) ⟨Nat.le_of_ble_eq_true rfl, Nat.le_of_ble_eq_true rfl⟩) gj_J.self 0 2 rfl rfl rfl rfl rfl (Nat.le_of_ble_eq_true rfl) d_M_receive_201 ⟨Nat.zero_le _, Nat.zero_le _⟩ ?_
                  refine gj_if_eqB (pc := 204) cx d_M_receive_204 (tgt := 210) rfl (fun hb34 => ?_) (fun hb34 => ?_)
                  · refine gj_eq (w' := rW cI cJ am n f z (rSt V, va_up (rFu V) x (rFu V x - 1), rSu V, rOw V, rEc V, rRe V, rAp V, rFr V, rMa V, rHe V, rHm V, rAc V)) rfl rfl rfl (by rw [rBurn_t hb34]) ?_
                    refine gj_aload_n (pc := 210) cx d_M_receive_210 rfl (x := am 0) rfl ?_
                    refine gj_get (pc := 211) (ci := 2) (C := R_M) (T := T_M) (N := 15) (v := .ref (am 6)) cx hK gj_wP in_M d_M_receive_211 0 rfl rfl 8 (by decide) (in_WT wm_349) rfl ?_
                    refine gj_iload (pc := 214) cx d_M_receive_214 (x := nI ((x * 7 + b) * 5 + q - 1)) rfl ?_
                    refine gj_lload (pc := 216) cx d_M_receive_216 (x := pp) rfl ?_
                    refine gj_last (pc := 218) (i := (x * 7 + b) * 5 + q - 1) (f := rRe V) (x := pp) (ws' := rW cI cJ am n f z (rSt V, va_up (rFu V) x (rFu V x - 1), rSu V, rOw V, rEc V, va_up (rRe V) ((x * 7 + b) * 5 + q - 1) pp, rAp V, rFr V, rMa V, rHe V, rHm V, rAc V)) cx hK d_M_receive_218 6 1 rfl rfl (by omega) (by decide) rfl ?_
                    refine gj_pick (lo' := [(0, .ref (am 0)), (1, .int (nI x)), (4, .int (nI b)), (5, .int (nI q)), (6, .long pp), (9, .int (nI ((x * 7 + b) * 5 + q - 1)))]) [4, 5, 8, 9, 10, 2] rfl ?_
                    have hrd : rRdy V n f x k b q pp = true := by simp [rRdy, hb21, hb22, hb27, hb31, hb32, hb33] <;> omega
                    exact gj_eq rfl rfl rfl (by rw [rUpRe, rBurn_t hb34]) (J (rUpRe (rBurn V x) ((x * 7 + b) * 5 + q - 1) pp) ⟨by rw [rBurn_t hb34]; exact rOk_burn hokV hb34, rTk_3 hV hb4 (Or.inl ⟨hrd, rBn_f hb34, rfl⟩)⟩)
                  · refine gj_bipush (pc := 207) cx d_M_receive_207 (v := (-7)) (by decide) ?_
                    exact gj_iretW (pc := 209) cx hr hlk d_M_receive_209 (by rw [rTk_7 hV hb4 (by simp [rRdy, hb21, hb22, hb27, hb31, hb32, hb33] <;> omega) (rBn_t hb34)]) (by rw [rTk_7 hV hb4 (by simp [rRdy, hb21, hb22, hb27, hb31, hb32, hb33] <;> omega) (rBn_t hb34), rBurn_1 (rBn_t hb34)])
          · refine gj_aload_n (pc := 109) cx d_M_receive_109 rfl (x := am 0) rfl ?_
            refine gj_iload_n (pc := 110) cx d_M_receive_110 rfl (x := nI x) rfl ?_
            refine gj_iconst (pc := 111) cx d_M_receive_111 (v := nI 1) (by decide) ?_
            refine gj_iload (pc := 112) cx d_M_receive_112 (x := nI b) rfl ?_
            refine gj_iload (pc := 114) cx d_M_receive_114 (x := nI q) rfl ?_
            refine gj_lload (pc := 116) cx d_M_receive_116 (x := pp) rfl ?_
            refine gj_callVRi (pc := 118) (As := [.int (nI x), .int (nI 1), .int (nI b), .int (nI q), .long pp]) (rest := []) (v := nI (rMany V n x 1 b q pp)) cx hK (c_M_many l D cI cJ am n f z V x 1 b q pp (by omega) (by omega) (by omega) (by omega) (by omega) (by omega) (by omega)) (cwV 5 cx.2.2.2.2 (good_V wm_452 wm_450 wm_451 wm_569 wm_5) rfl rfl rfl (by decide +kernel) ⟨Nat.le_of_ble_eq_true rfl, Nat.le_of_ble_eq_true rfl⟩) gj_wP 0 2 rfl rfl rfl rfl rfl (Nat.le_of_ble_eq_true rfl) d_M_receive_118 ⟨Nat.zero_le _, Nat.zero_le _⟩ ?_
            have hv35 := rMany_lt V n x 1 b q pp
            refine gj_aload_n (pc := 121) cx d_M_receive_121 rfl (x := am 0) rfl ?_
            refine gj_get (pc := 122) (ci := 2) (C := R_M) (T := T_M) (N := 15) (v := .int (nI n)) cx hK gj_wP in_M d_M_receive_122 0 rfl rfl 0 (by decide) (in_WT wm_341) rfl ?_
            refine gj_aload_n (pc := 125) cx d_M_receive_125 rfl (x := am 0) rfl ?_
            refine gj_get (pc := 126) (ci := 2) (C := R_M) (T := T_M) (N := 15) (v := .int (nI f)) cx hK gj_wP in_M d_M_receive_126 0 rfl rfl 1 (by decide) (in_WT wm_342) rfl ?_
            refine gj_iaddN (pc := 129) cx d_M_receive_129 ?_
            refine gj_iconst (pc := 130) cx d_M_receive_130 (v := nI 2) (by decide) ?_
            refine gj_idivN (pc := 131) cx d_M_receive_131 (by omega) (by omega) (by omega) ?_
            refine gj_iconst (pc := 132) cx d_M_receive_132 (v := nI 1) (by decide) ?_
            refine gj_iaddN (pc := 133) cx d_M_receive_133 ?_
            refine gj_icmp_ltN (pc := 134) cx d_M_receive_134 (tgt := 141) rfl (by omega) (by omega) (fun hb36 => ?_) (fun hb36 => ?_)
            · refine gj_iconst (pc := 141) cx d_M_receive_141 (v := nI 0) (by decide) ?_
              refine gj_istore (pc := 142) cx d_M_receive_142 (lo' := [(10, .int (nI 0)), (9, .int (nI ((x * 7 + b) * 5 + q - 1))), (8, .int (rObjC S n x y (nI k) (nI b) (nI q) pp)), (0, .ref (am 0)), (1, .int (nI x)), (2, .int (nI y)), (3, .int (nI k)), (4, .int (nI b)), (5, .int (nI q)), (6, .long pp)]) (by decide) rfl ?_
              refine gj_iload_n (pc := 144) cx d_M_receive_144 rfl (x := nI k) rfl ?_
              refine gj_iconst (pc := 145) cx d_M_receive_145 (v := nI 2) (by decide) ?_
              refine gj_icmp_neN (pc := 146) cx d_M_receive_146 (tgt := 174) rfl (by omega) (by omega) (fun hb37 => ?_) (fun hb37 => absurd hb37 (by omega))
              refine gj_iconst (pc := 174) cx d_M_receive_174 (v := nI 0) (by decide) ?_
              refine gj_istore (pc := 175) cx d_M_receive_175 (lo' := [(11, .int (nI 0)), (10, .int (nI 0)), (9, .int (nI ((x * 7 + b) * 5 + q - 1))), (8, .int (rObjC S n x y (nI k) (nI b) (nI q) pp)), (0, .ref (am 0)), (1, .int (nI x)), (2, .int (nI y)), (3, .int (nI k)), (4, .int (nI b)), (5, .int (nI q)), (6, .long pp)]) (by decide) rfl ?_
              refine gj_aload_n (pc := 177) cx d_M_receive_177 rfl (x := am 0) rfl ?_
              refine gj_get (pc := 178) (ci := 2) (C := R_M) (T := T_M) (N := 15) (v := .ref (am 6)) cx hK gj_wP in_M d_M_receive_178 0 rfl rfl 8 (by decide) (in_WT wm_349) rfl ?_
              refine gj_iload (pc := 181) cx d_M_receive_181 (x := nI ((x * 7 + b) * 5 + q - 1)) rfl ?_
              refine gj_lald (pc := 183) (i := (x * 7 + b) * 5 + q - 1) (f := rRe V) cx hK gj_wP d_M_receive_183 6 1 rfl rfl (by omega) (by decide) ?_
              refine gj_lconst (pc := 184) cx d_M_receive_184 (v := 0) (by decide) ?_
              refine gj_lcmp_ne (pc := 185) cx d_M_receive_185 d_M_receive_186 (tgt := 219) rfl (fun hb38 => ?_) (fun hb38 => ?_)
              · refine gj_pick (lo' := [(0, .ref (am 0)), (1, .int (nI x)), (4, .int (nI b)), (5, .int (nI q)), (6, .long pp), (9, .int (nI ((x * 7 + b) * 5 + q - 1)))]) [4, 5, 8, 9, 10, 2] rfl ?_
                have hrd : rRdy V n f x k b q pp = false := by simp [rRdy, hb21, hb36, hb37, hb38] <;> omega
                exact J V ⟨hokV, rTk_3 hV hb4 (Or.inr ⟨hrd, rfl⟩)⟩
              · refine gj_iload (pc := 189) cx d_M_receive_189 (x := nI 0) rfl ?_
                refine gj_if_neN (pc := 191) cx d_M_receive_191 (tgt := 199) rfl (by omega) (fun hb39 => absurd hb39 (by omega)) (fun hb39 => ?_)
                refine gj_iload (pc := 194) cx d_M_receive_194 (x := nI 0) rfl ?_
                refine gj_if_eqN (pc := 196) cx d_M_receive_196 (tgt := 219) rfl (by omega) (fun hb40 => ?_) (fun hb40 => absurd hb40 (by omega))
                refine gj_pick (lo' := [(0, .ref (am 0)), (1, .int (nI x)), (4, .int (nI b)), (5, .int (nI q)), (6, .long pp), (9, .int (nI ((x * 7 + b) * 5 + q - 1)))]) [4, 5, 8, 9, 10, 2] rfl ?_
                have hrd : rRdy V n f x k b q pp = false := by simp [rRdy, hb21, hb36, hb37, hb38, hb39, hb40] <;> omega
                exact J V ⟨hokV, rTk_3 hV hb4 (Or.inr ⟨hrd, rfl⟩)⟩
            · refine gj_iconst (pc := 137) cx d_M_receive_137 (v := nI 1) (by decide) ?_
              refine gj_goto (pc := 138) cx d_M_receive_138 (tgt := 142) rfl ?_
              refine gj_istore (pc := 142) cx d_M_receive_142 (lo' := [(10, .int (nI 1)), (9, .int (nI ((x * 7 + b) * 5 + q - 1))), (8, .int (rObjC S n x y (nI k) (nI b) (nI q) pp)), (0, .ref (am 0)), (1, .int (nI x)), (2, .int (nI y)), (3, .int (nI k)), (4, .int (nI b)), (5, .int (nI q)), (6, .long pp)]) (by decide) rfl ?_
              refine gj_iload_n (pc := 144) cx d_M_receive_144 rfl (x := nI k) rfl ?_
              refine gj_iconst (pc := 145) cx d_M_receive_145 (v := nI 2) (by decide) ?_
              refine gj_icmp_neN (pc := 146) cx d_M_receive_146 (tgt := 174) rfl (by omega) (by omega) (fun hb41 => ?_) (fun hb41 => absurd hb41 (by omega))
              refine gj_iconst (pc := 174) cx d_M_receive_174 (v := nI 0) (by decide) ?_
              refine gj_istore (pc := 175) cx d_M_receive_175 (lo' := [(11, .int (nI 0)), (10, .int (nI 1)), (9, .int (nI ((x * 7 + b) * 5 + q - 1))), (8, .int (rObjC S n x y (nI k) (nI b) (nI q) pp)), (0, .ref (am 0)), (1, .int (nI x)), (2, .int (nI y)), (3, .int (nI k)), (4, .int (nI b)), (5, .int (nI q)), (6, .long pp)]) (by decide) rfl ?_
              refine gj_aload_n (pc := 177) cx d_M_receive_177 rfl (x := am 0) rfl ?_
              refine gj_get (pc := 178) (ci := 2) (C := R_M) (T := T_M) (N := 15) (v := .ref (am 6)) cx hK gj_wP in_M d_M_receive_178 0 rfl rfl 8 (by decide) (in_WT wm_349) rfl ?_
              refine gj_iload (pc := 181) cx d_M_receive_181 (x := nI ((x * 7 + b) * 5 + q - 1)) rfl ?_
              refine gj_lald (pc := 183) (i := (x * 7 + b) * 5 + q - 1) (f := rRe V) cx hK gj_wP d_M_receive_183 6 1 rfl rfl (by omega) (by decide) ?_
              refine gj_lconst (pc := 184) cx d_M_receive_184 (v := 0) (by decide) ?_
              refine gj_lcmp_ne (pc := 185) cx d_M_receive_185 d_M_receive_186 (tgt := 219) rfl (fun hb42 => ?_) (fun hb42 => ?_)
              · refine gj_pick (lo' := [(0, .ref (am 0)), (1, .int (nI x)), (4, .int (nI b)), (5, .int (nI q)), (6, .long pp), (9, .int (nI ((x * 7 + b) * 5 + q - 1)))]) [4, 5, 8, 9, 10, 2] rfl ?_
                have hrd : rRdy V n f x k b q pp = false := by simp [rRdy, hb21, hb36, hb41, hb42] <;> omega
                exact J V ⟨hokV, rTk_3 hV hb4 (Or.inr ⟨hrd, rfl⟩)⟩
              · refine gj_iload (pc := 189) cx d_M_receive_189 (x := nI 1) rfl ?_
                refine gj_if_neN (pc := 191) cx d_M_receive_191 (tgt := 199) rfl (by omega) (fun hb43 => ?_) (fun hb43 => absurd hb43 (by omega))
                refine gj_aload_n (pc := 199) cx d_M_receive_199 rfl (x := am 0) rfl ?_
                refine gj_iload_n (pc := 200) cx d_M_receive_200 rfl (x := nI x) rfl ?_
                refine gj_callVWi (pc := 201) (As := [.int (nI x)]) (rest := []) (v := bI (rBn V x)) (ws' := rW cI cJ am n f z (rBurn V x)) cx hK hA (fun sz => c_M_burns l D cI cJ am n f z V x (by omega) (hokV) sz) (cwV 1 cx.2.2.2.2 (good_V wm_446 wm_444 wm_445 wm_567 wm_5) rfl rfl rfl (by decide +kernel) ⟨Nat.le_of_ble_eq_true rfl, Nat.le_of_ble_eq_true rfl⟩) gj_J.self 0 2 rfl rfl rfl rfl rfl (Nat.le_of_ble_eq_true rfl) d_M_receive_201 ⟨Nat.zero_le _, Nat.zero_le _⟩ ?_
                refine gj_if_eqB (pc := 204) cx d_M_receive_204 (tgt := 210) rfl (fun hb44 => ?_) (fun hb44 => ?_)
                · refine gj_eq (w' := rW cI cJ am n f z (rSt V, va_up (rFu V) x (rFu V x - 1), rSu V, rOw V, rEc V, rRe V, rAp V, rFr V, rMa V, rHe V, rHm V, rAc V)) rfl rfl rfl (by rw [rBurn_t hb44]) ?_
                  refine gj_aload_n (pc := 210) cx d_M_receive_210 rfl (x := am 0) rfl ?_
                  refine gj_get (pc := 211) (ci := 2) (C := R_M) (T := T_M) (N := 15) (v := .ref (am 6)) cx hK gj_wP in_M d_M_receive_211 0 rfl rfl 8 (by decide) (in_WT wm_349) rfl ?_
                  refine gj_iload (pc := 214) cx d_M_receive_214 (x := nI ((x * 7 + b) * 5 + q - 1)) rfl ?_
                  refine gj_lload (pc := 216) cx d_M_receive_216 (x := pp) rfl ?_
                  refine gj_last (pc := 218) (i := (x * 7 + b) * 5 + q - 1) (f := rRe V) (x := pp) (ws' := rW cI cJ am n f z (rSt V, va_up (rFu V) x (rFu V x - 1), rSu V, rOw V, rEc V, va_up (rRe V) ((x * 7 + b) * 5 + q - 1) pp, rAp V, rFr V, rMa V, rHe V, rHm V, rAc V)) cx hK d_M_receive_218 6 1 rfl rfl (by omega) (by decide) rfl ?_
                  refine gj_pick (lo' := [(0, .ref (am 0)), (1, .int (nI x)), (4, .int (nI b)), (5, .int (nI q)), (6, .long pp), (9, .int (nI ((x * 7 + b) * 5 + q - 1)))]) [4, 5, 8, 9, 10, 2] rfl ?_
                  have hrd : rRdy V n f x k b q pp = true := by simp [rRdy, hb21, hb36, hb41, hb42, hb43] <;> omega
                  exact gj_eq rfl rfl rfl (by rw [rUpRe, rBurn_t hb44]) (J (rUpRe (rBurn V x) ((x * 7 + b) * 5 + q - 1) pp) ⟨by rw [rBurn_t hb44]; exact rOk_burn hokV hb44, rTk_3 hV hb4 (Or.inl ⟨hrd, rBn_f hb44, rfl⟩)⟩)
                · refine gj_bipush (pc := 207) cx d_M_receive_207 (v := (-7)) (by decide) ?_
                  exact gj_iretW (pc := 209) cx hr hlk d_M_receive_209 (by rw [rTk_7 hV hb4 (by simp [rRdy, hb21, hb36, hb41, hb42, hb43] <;> omega) (rBn_t hb44)]) (by rw [rTk_7 hV hb4 (by simp [rRdy, hb21, hb36, hb41, hb42, hb43] <;> omega) (rBn_t hb44), rBurn_1 (rBn_t hb44)])
      · refine gj_aload_n (pc := 65) cx d_M_receive_65 rfl (x := am 0) rfl ?_
        refine gj_iload_n (pc := 66) cx d_M_receive_66 rfl (x := nI x) rfl ?_
        refine gj_callVWi (pc := 67) (As := [.int (nI x)]) (rest := []) (v := bI (rBn S x)) (ws' := rW cI cJ am n f z (rBurn S x)) cx hK hA (fun sz => c_M_burns l D cI cJ am n f z S x (by omega) (hok) sz) (cwV 1 cx.2.2.2.2 (good_V wm_446 wm_444 wm_445 wm_567 wm_5) rfl rfl rfl (by decide +kernel) ⟨Nat.le_of_ble_eq_true rfl, Nat.le_of_ble_eq_true rfl⟩) gj_J.self 0 2 rfl rfl rfl rfl rfl (Nat.le_of_ble_eq_true rfl) d_M_receive_67 ⟨Nat.zero_le _, Nat.zero_le _⟩ ?_
        refine gj_if_eqB (pc := 70) cx d_M_receive_70 (tgt := 76) rfl (fun hb45 => ?_) (fun hb45 => ?_)
        · refine gj_eq (w' := rW cI cJ am n f z (rSt S, va_up (rFu S) x (rFu S x - 1), rSu S, rOw S, rEc S, rRe S, rAp S, rFr S, rMa S, rHe S, rHm S, rAc S)) rfl rfl rfl (by rw [rBurn_t hb45]) ?_
          refine gj_aload_n (pc := 76) cx d_M_receive_76 rfl (x := am 0) rfl ?_
          refine gj_get (pc := 77) (ci := 2) (C := R_M) (T := T_M) (N := 15) (v := .ref (am 5)) cx hK gj_wP in_M d_M_receive_77 0 rfl rfl 7 (by decide) (in_WT wm_348) rfl ?_
          refine gj_iload (pc := 80) cx d_M_receive_80 (x := nI ((x * 7 + b) * 5 + q - 1)) rfl ?_
          refine gj_lload (pc := 82) cx d_M_receive_82 (x := pp) rfl ?_
          refine gj_last (pc := 84) (i := (x * 7 + b) * 5 + q - 1) (f := rEc S) (x := pp) (ws' := rW cI cJ am n f z (rSt S, va_up (rFu S) x (rFu S x - 1), rSu S, rOw S, va_up (rEc S) ((x * 7 + b) * 5 + q - 1) pp, rRe S, rAp S, rFr S, rMa S, rHe S, rHm S, rAc S)) cx hK d_M_receive_84 5 1 rfl rfl (by omega) (by decide) rfl ?_
          refine gj_iconst (pc := 85) cx d_M_receive_85 (v := nI 0) (by decide) ?_
          exact gj_iretW (pc := 86) cx hr hlk d_M_receive_86 (by rw [rTk, if_pos hb4, if_neg (rBn_f hb45)]; rfl) (by rw [rTk, if_pos hb4, if_neg (rBn_f hb45), rUpEc, rBurn_t hb45])
        · refine gj_bipush (pc := 73) cx d_M_receive_73 (v := (-7)) (by decide) ?_
          exact gj_iretW (pc := 75) cx hr hlk d_M_receive_75 (by rw [rTk, if_pos hb4, if_pos (rBn_t hb45)]) (by rw [rTk, if_pos hb4, if_pos (rBn_t hb45), rBurn_1 (rBn_t hb45)])
  · refine gj_iload (pc := 20) cx d_M_receive_20 (x := rObjC S n x y kd bd qd pp) rfl ?_
    exact gj_iretW (pc := 22) cx hr hlk d_M_receive_22 (by rw [rRecv_o hb1]) (by rw [rRecv_o hb1])
