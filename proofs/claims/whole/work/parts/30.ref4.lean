/-! Contracts of the reference, fourth part, laid by wip/gen/m_ref.py -/
set_option maxRecDepth 100000 in
set_option maxHeartbeats 4000000 in
theorem c_M_kindOf (l : Launch) (D : va_G) (tys : List (ClassId × FieldType)) (t : Nat) (ht : t < 2147483648) : MRi l y_M_kindOf (wsM y_M_kindOf b_M_kindOf 1 (some .int)) { frames := 0, cells := 0, slots := 0, locals := 0 } D vwK tys ([]) [.int (nI t)] (nI (t / 35)) := by
  refine gj_enterR (own := R_M) (by decide) rfl (Nat.le_of_ble_eq_true rfl) rfl rfl (fun p e s m below meth c cx hr hlk hK => ?_)
  refine gj_iload_n (pc := 0) cx d_M_kindOf_0 rfl (x := nI t) rfl ?_
  refine gj_bipush (pc := 1) cx d_M_kindOf_1 (v := nI 35) (by decide) ?_
  refine gj_idivN (pc := 3) cx d_M_kindOf_3 (by omega) (by omega) (by omega) ?_
  exact gj_iretR (pc := 4) cx hr hlk d_M_kindOf_4 (rfl)

set_option maxRecDepth 100000 in
set_option maxHeartbeats 4000000 in
theorem c_M_accountOf (l : Launch) (D : va_G) (tys : List (ClassId × FieldType)) (t : Nat) (ht : t < 2147483648) : MRi l y_M_accountOf (wsM y_M_accountOf b_M_accountOf 1 (some .int)) { frames := 0, cells := 0, slots := 0, locals := 0 } D vwK tys ([]) [.int (nI t)] (nI (tA t)) := by
  refine gj_enterR (own := R_M) (by decide) rfl (Nat.le_of_ble_eq_true rfl) rfl rfl (fun p e s m below meth c cx hr hlk hK => ?_)
  refine gj_iload_n (pc := 0) cx d_M_accountOf_0 rfl (x := nI t) rfl ?_
  refine gj_sipush (pc := 1) cx d_M_accountOf_1 (v := nI 140) (by decide) ?_
  refine gj_icmp_neN (pc := 4) cx d_M_accountOf_4 (tgt := 11) rfl (by omega) (by omega) (fun hb1 => ?_) (fun hb1 => ?_)
  · refine gj_iload_n (pc := 11) cx d_M_accountOf_11 rfl (x := nI t) rfl ?_
    refine gj_bipush (pc := 12) cx d_M_accountOf_12 (v := nI 35) (by decide) ?_
    refine gj_iremN (pc := 14) cx d_M_accountOf_14 (by omega) (by omega) (by omega) ?_
    refine gj_iconst (pc := 15) cx d_M_accountOf_15 (v := nI 5) (by decide) ?_
    refine gj_idivN (pc := 16) cx d_M_accountOf_16 (by omega) (by omega) (by omega) ?_
    exact gj_iretR (pc := 17) cx hr hlk d_M_accountOf_17 (by rw [tA, if_neg hb1])
  · refine gj_iconst (pc := 7) cx d_M_accountOf_7 (v := nI 0) (by decide) ?_
    refine gj_goto (pc := 8) cx d_M_accountOf_8 (tgt := 17) rfl ?_
    exact gj_iretR (pc := 17) cx hr hlk d_M_accountOf_17 (by rw [tA, if_pos hb1])

set_option maxRecDepth 100000 in
set_option maxHeartbeats 4000000 in
theorem c_M_seqOf (l : Launch) (D : va_G) (tys : List (ClassId × FieldType)) (t : Nat) (ht : t < 2147483648) : MRi l y_M_seqOf (wsM y_M_seqOf b_M_seqOf 1 (some .int)) { frames := 0, cells := 0, slots := 0, locals := 0 } D vwK tys ([]) [.int (nI t)] (nI (tQ t)) := by
  refine gj_enterR (own := R_M) (by decide) rfl (Nat.le_of_ble_eq_true rfl) rfl rfl (fun p e s m below meth c cx hr hlk hK => ?_)
  refine gj_iload_n (pc := 0) cx d_M_seqOf_0 rfl (x := nI t) rfl ?_
  refine gj_sipush (pc := 1) cx d_M_seqOf_1 (v := nI 140) (by decide) ?_
  refine gj_icmp_neN (pc := 4) cx d_M_seqOf_4 (tgt := 11) rfl (by omega) (by omega) (fun hb1 => ?_) (fun hb1 => ?_)
  · refine gj_iload_n (pc := 11) cx d_M_seqOf_11 rfl (x := nI t) rfl ?_
    refine gj_iconst (pc := 12) cx d_M_seqOf_12 (v := nI 5) (by decide) ?_
    refine gj_iremN (pc := 13) cx d_M_seqOf_13 (by omega) (by omega) (by omega) ?_
    refine gj_iconst (pc := 14) cx d_M_seqOf_14 (v := nI 1) (by decide) ?_
    refine gj_iaddN (pc := 15) cx d_M_seqOf_15 ?_
    exact gj_iretR (pc := 16) cx hr hlk d_M_seqOf_16 (by rw [tQ, if_neg hb1])
  · refine gj_iconst (pc := 7) cx d_M_seqOf_7 (v := nI 0) (by decide) ?_
    refine gj_goto (pc := 8) cx d_M_seqOf_8 (tgt := 16) rfl ?_
    exact gj_iretR (pc := 16) cx hr hlk d_M_seqOf_16 (by rw [tQ, if_pos hb1])

set_option maxRecDepth 100000 in
set_option maxHeartbeats 4000000 in
theorem c_M_to_p (l : Launch) (D : va_G) (cI cJ : ClassId) (am : Nat → Nat) (n f : Nat) (z : Int64) (S : RS) (t : Nat) (y : Nat) (hn : n ≤ 7) (hok : rOk S) (ht : t < 141) (hy : y < n) : MRi l y_M_to (wsM y_M_to b_M_to 8 (some .int)) { frames := 3, cells := 0, slots := 0, locals := 77 } D vwK (tyl cI cJ) (rW cI cJ am n f z S) [.ref (am 0), .int (nI t), .int (nI y), .int (nI 0)] (nI (cntB (rPd S n t y) n)) := by
  refine gj_enterR (own := R_M) (by decide) rfl (Nat.le_of_ble_eq_true rfl) rfl rfl (fun p e s m below meth c cx hr hlk hK => ?_)
  refine gj_iconst (pc := 0) cx d_M_to_0 (v := nI 0) (by decide) ?_
  refine gj_istore (pc := 1) cx d_M_to_1 (lo' := [(4, .int (nI 0)), (0, .ref (am 0)), (1, .int (nI t)), (2, .int (nI y)), (3, .int (nI 0))]) (by decide) rfl ?_
  refine gj_aload_n (pc := 3) cx d_M_to_3 rfl (x := am 0) rfl ?_
  refine gj_iload_n (pc := 4) cx d_M_to_4 rfl (x := nI y) rfl ?_
  refine gj_callVRi (pc := 5) (As := [.int (nI y)]) (rest := []) (v := bI (rCor S n (nI y))) cx hK (c_M_correct l D cI cJ am n f z S (nI y) (by omega) (hok)) (cwV 1 cx.2.2.2.2 (good_V wm_380 wm_378 wm_379 wm_556 wm_5) rfl rfl rfl (by decide +kernel) ⟨Nat.le_of_ble_eq_true rfl, Nat.le_of_ble_eq_true rfl⟩) gj_rP 0 2 rfl rfl rfl rfl rfl (Nat.le_of_ble_eq_true rfl) d_M_to_5 ⟨Nat.zero_le _, Nat.zero_le _⟩ ?_
  refine gj_if_eqB (pc := 8) cx d_M_to_8 (tgt := 31) rfl (fun hb1 => ?_) (fun hb1 => ?_)
  · refine gj_ldc2 (pc := 31) cx d_M_to_31 (v := (-1)) (in_WT wm_393) ?_
    refine gj_lstore (pc := 34) cx d_M_to_34 (lo' := [(5, .long (-1)), (4, .int (nI 0)), (0, .ref (am 0)), (1, .int (nI t)), (2, .int (nI y)), (3, .int (nI 0))]) (by decide) rfl ?_
    refine gj_lload (pc := 36) cx d_M_to_36 (x := (-1)) rfl ?_
    refine gj_lconst (pc := 38) cx d_M_to_38 (v := 0) (by decide) ?_
    refine gj_lcmp_ge (pc := 39) cx d_M_to_39 d_M_to_40 (tgt := 53) rfl (fun hb2 => absurd hb2 (by decide)) (fun hb2 => ?_)
    refine gj_iload_n (pc := 43) cx d_M_to_43 rfl (x := nI 0) rfl ?_
    refine gj_if_eqN (pc := 44) cx d_M_to_44 (tgt := 51) rfl (by omega) (fun hb3 => ?_) (fun hb3 => absurd hb3 (by omega))
    refine gj_iconst (pc := 51) cx d_M_to_51 (v := nI 0) (by decide) ?_
    exact gj_iretR (pc := 52) cx hr hlk d_M_to_52 (by rw [cntB_0 (rPd_a (by simpa [rCor_N hn hy] using hb1))])
  · have hyc : rSt S y ≠ 2 := by simpa [rCor_N hn hy] using hb1
    refine gj_aload_n (pc := 11) cx d_M_to_11 rfl (x := am 0) rfl ?_
    refine gj_iload_n (pc := 12) cx d_M_to_12 rfl (x := nI y) rfl ?_
    refine gj_iload_n (pc := 13) cx d_M_to_13 rfl (x := nI t) rfl ?_
    refine gj_callSRi (pc := 14) (As := [.int (nI t)]) (rest := [.int (nI y), .ref (am 0)]) (v := nI (t / 35)) cx hK (c_M_kindOf l D (tyl cI cJ) t (by omega)) (va_cwS 1 cx.2.2.2.2 (good_S wm_383 wm_381 wm_382 wm_5) rfl rfl rfl (by decide +kernel) ⟨Nat.le_of_ble_eq_true rfl, Nat.le_of_ble_eq_true rfl⟩) (fun _ _ _ => gj_P0) rfl rfl (Nat.le_of_ble_eq_true rfl) d_M_to_14 ⟨Nat.zero_le _, Nat.zero_le _⟩ ?_
    refine gj_iload_n (pc := 17) cx d_M_to_17 rfl (x := nI t) rfl ?_
    refine gj_callSRi (pc := 18) (As := [.int (nI t)]) (rest := [.int (nI (t / 35)), .int (nI y), .ref (am 0)]) (v := nI (tA t)) cx hK (c_M_accountOf l D (tyl cI cJ) t (by omega)) (va_cwS 1 cx.2.2.2.2 (good_S wm_386 wm_384 wm_385 wm_5) rfl rfl rfl (by decide +kernel) ⟨Nat.le_of_ble_eq_true rfl, Nat.le_of_ble_eq_true rfl⟩) (fun _ _ _ => gj_P0) rfl rfl (Nat.le_of_ble_eq_true rfl) d_M_to_18 ⟨Nat.zero_le _, Nat.zero_le _⟩ ?_
    refine gj_iload_n (pc := 21) cx d_M_to_21 rfl (x := nI t) rfl ?_
    refine gj_callSRi (pc := 22) (As := [.int (nI t)]) (rest := [.int (nI (tA t)), .int (nI (t / 35)), .int (nI y), .ref (am 0)]) (v := nI (tQ t)) cx hK (c_M_seqOf l D (tyl cI cJ) t (by omega)) (va_cwS 1 cx.2.2.2.2 (good_S wm_389 wm_387 wm_388 wm_5) rfl rfl rfl (by decide +kernel) ⟨Nat.le_of_ble_eq_true rfl, Nat.le_of_ble_eq_true rfl⟩) (fun _ _ _ => gj_P0) rfl rfl (Nat.le_of_ble_eq_true rfl) d_M_to_22 ⟨Nat.zero_le _, Nat.zero_le _⟩ ?_
    refine gj_callVRl (pc := 25) (As := [.int (nI y), .int (nI (t / 35)), .int (nI (tA t)), .int (nI (tQ t))]) (rest := []) (v := rSaidC S n y (nI (t / 35)) (nI (tA t)) (nI (tQ t))) cx hK (c_M_said l D cI cJ am n f z S y (nI (t / 35)) (nI (tA t)) (nI (tQ t)) (by omega) (by omega) (by omega)) (cwV 4 cx.2.2.2.2 (good_V wm_392 wm_390 wm_391 wm_557 wm_5) rfl rfl rfl (by decide +kernel) ⟨Nat.le_of_ble_eq_true rfl, Nat.le_of_ble_eq_true rfl⟩) gj_rP 0 2 rfl rfl rfl rfl rfl (Nat.le_of_ble_eq_true rfl) d_M_to_25 ⟨Nat.zero_le _, Nat.zero_le _⟩ ?_
    refine gj_tol (y := rSd S n y t) (rfl) ?_
    refine gj_goto (pc := 28) cx d_M_to_28 (tgt := 34) rfl ?_
    refine gj_lstore (pc := 34) cx d_M_to_34 (lo' := [(5, .long (rSd S n y t)), (4, .int (nI 0)), (0, .ref (am 0)), (1, .int (nI t)), (2, .int (nI y)), (3, .int (nI 0))]) (by decide) rfl ?_
    refine gj_lload (pc := 36) cx d_M_to_36 (x := rSd S n y t) rfl ?_
    refine gj_lconst (pc := 38) cx d_M_to_38 (v := 0) (by decide) ?_
    refine gj_lcmp_ge (pc := 39) cx d_M_to_39 d_M_to_40 (tgt := 53) rfl (fun hb4 => ?_) (fun hb4 => ?_)
    · refine gj_iconst (pc := 53) cx d_M_to_53 (v := nI 0) (by decide) ?_
      refine gj_istore (pc := 54) cx d_M_to_54 (lo' := [(7, .int (nI 0)), (5, .long (rSd S n y t)), (4, .int (nI 0)), (0, .ref (am 0)), (1, .int (nI t)), (2, .int (nI y)), (3, .int (nI 0))]) (by decide) rfl ?_
      refine gj_pick (lo' := [(0, .ref (am 0)), (1, .int (nI t)), (2, .int (nI y)), (3, .int (nI 0)), (4, .int (nI 0)), (5, .long (rSd S n y t)), (7, .int (nI 0))]) [3, 4, 5, 6, 2, 1, 0] rfl ?_
      refine gj_forG (G := Gj p l e _ s m _ below meth c _ _ _ _ _) n 56 (fun i => [(0, .ref (am 0)), (1, .int (nI t)), (2, .int (nI y)), (3, .int (nI 0)), (4, .int (nI (cntB (rPd S n t y) i))), (5, .long (rSd S n y t)), (7, .int (nI i))]) (fun i => rW cI cJ am n f z S) (fun i hi ihi => ?_) 0 (by omega)
      refine gj_iload (pc := 56) cx d_M_to_56 (x := nI i) rfl ?_
      refine gj_aload_n (pc := 58) cx d_M_to_58 rfl (x := am 0) rfl ?_
      refine gj_get (pc := 59) (ci := 2) (C := R_M) (T := T_M) (N := 15) (v := .int (nI n)) cx hK gj_rP in_M d_M_to_59 0 rfl rfl 0 (by decide) (in_WT wm_341) rfl ?_
      refine gj_icmp_geN (pc := 62) cx d_M_to_62 (tgt := 114) rfl (by omega) (by omega) (fun hb5 => ?_) (fun hb5 => ?_)
      · refine gj_iload_n (pc := 114) cx d_M_to_114 rfl (x := nI 0) rfl ?_
        refine gj_if_eqN (pc := 115) cx d_M_to_115 (tgt := 122) rfl (by omega) (fun hb6 => ?_) (fun hb6 => absurd hb6 (by omega))
        refine gj_iload (pc := 122) cx d_M_to_122 (x := nI (cntB (rPd S n t y) i)) rfl ?_
        exact gj_iretR (pc := 124) cx hr hlk d_M_to_124 (by rw [show i = n from (by omega)])
      · refine gj_aload_n (pc := 65) cx d_M_to_65 rfl (x := am 0) rfl ?_
        refine gj_iload (pc := 66) cx d_M_to_66 (x := nI i) rfl ?_
        refine gj_callVRi (pc := 68) (As := [.int (nI i)]) (rest := []) (v := bI (rUp S n (nI i))) cx hK (c_M_up l D cI cJ am n f z S (nI i) (by omega) (by omega)) (cwV 1 cx.2.2.2.2 (good_V wm_402 wm_400 wm_401 wm_559 wm_5) rfl rfl rfl (by decide +kernel) ⟨Nat.le_of_ble_eq_true rfl, Nat.le_of_ble_eq_true rfl⟩) gj_rP 0 2 rfl rfl rfl rfl rfl (Nat.le_of_ble_eq_true rfl) d_M_to_68 ⟨Nat.zero_le _, Nat.zero_le _⟩ ?_
        refine gj_if_eqB (pc := 71) cx d_M_to_71 (tgt := 108) rfl (fun hb7 => ?_) (fun hb7 => ?_)
        · refine gj_iincN (pc := 108) cx d_M_to_108 (k := 6) (d := 1) (lo' := [(7, .int (nI (i + 1))), (0, .ref (am 0)), (1, .int (nI t)), (2, .int (nI y)), (3, .int (nI 0)), (4, .int (nI (cntB (rPd S n t y) i))), (5, .long (rSd S n y t))]) rfl (by decide) (by decide) rfl ?_
          refine gj_goto (pc := 111) cx d_M_to_111 (tgt := 56) rfl ?_
          refine gj_pick (lo' := [(0, .ref (am 0)), (1, .int (nI t)), (2, .int (nI y)), (3, .int (nI 0)), (4, .int (nI (cntB (rPd S n t y) i))), (5, .long (rSd S n y t)), (7, .int (nI (i + 1)))]) [1, 2, 3, 4, 5, 6, 0] rfl ?_
          exact gj_eq rfl (by rw [cntB_f (rPd_f1 hb7)]) rfl (rfl) (ihi (by omega))
        · refine gj_aload_n (pc := 74) cx d_M_to_74 rfl (x := am 0) rfl ?_
          refine gj_iload (pc := 75) cx d_M_to_75 (x := nI i) rfl ?_
          refine gj_iload_n (pc := 77) cx d_M_to_77 rfl (x := nI y) rfl ?_
          refine gj_iload_n (pc := 78) cx d_M_to_78 rfl (x := nI t) rfl ?_
          refine gj_callSRi (pc := 79) (As := [.int (nI t)]) (rest := [.int (nI y), .int (nI i), .ref (am 0)]) (v := nI (t / 35)) cx hK (c_M_kindOf l D (tyl cI cJ) t (by omega)) (va_cwS 1 cx.2.2.2.2 (good_S wm_383 wm_381 wm_382 wm_5) rfl rfl rfl (by decide +kernel) ⟨Nat.le_of_ble_eq_true rfl, Nat.le_of_ble_eq_true rfl⟩) (fun _ _ _ => gj_P0) rfl rfl (Nat.le_of_ble_eq_true rfl) d_M_to_79 ⟨Nat.zero_le _, Nat.zero_le _⟩ ?_
          refine gj_iload_n (pc := 82) cx d_M_to_82 rfl (x := nI t) rfl ?_
          refine gj_callSRi (pc := 83) (As := [.int (nI t)]) (rest := [.int (nI (t / 35)), .int (nI y), .int (nI i), .ref (am 0)]) (v := nI (tA t)) cx hK (c_M_accountOf l D (tyl cI cJ) t (by omega)) (va_cwS 1 cx.2.2.2.2 (good_S wm_386 wm_384 wm_385 wm_5) rfl rfl rfl (by decide +kernel) ⟨Nat.le_of_ble_eq_true rfl, Nat.le_of_ble_eq_true rfl⟩) (fun _ _ _ => gj_P0) rfl rfl (Nat.le_of_ble_eq_true rfl) d_M_to_83 ⟨Nat.zero_le _, Nat.zero_le _⟩ ?_
          refine gj_iload_n (pc := 86) cx d_M_to_86 rfl (x := nI t) rfl ?_
          refine gj_callSRi (pc := 87) (As := [.int (nI t)]) (rest := [.int (nI (tA t)), .int (nI (t / 35)), .int (nI y), .int (nI i), .ref (am 0)]) (v := nI (tQ t)) cx hK (c_M_seqOf l D (tyl cI cJ) t (by omega)) (va_cwS 1 cx.2.2.2.2 (good_S wm_389 wm_387 wm_388 wm_5) rfl rfl rfl (by decide +kernel) ⟨Nat.le_of_ble_eq_true rfl, Nat.le_of_ble_eq_true rfl⟩) (fun _ _ _ => gj_P0) rfl rfl (Nat.le_of_ble_eq_true rfl) d_M_to_87 ⟨Nat.zero_le _, Nat.zero_le _⟩ ?_
          refine gj_lload (pc := 90) cx d_M_to_90 (x := rSd S n y t) rfl ?_
          refine gj_callVRi (pc := 92) (As := [.int (nI i), .int (nI y), .int (nI (t / 35)), .int (nI (tA t)), .int (nI (tQ t)), .long (rSd S n y t)]) (rest := []) (v := rObjC S n i y (nI (t / 35)) (nI (tA t)) (nI (tQ t)) (rSd S n y t)) cx hK (c_M_objection l D cI cJ am n f z S i y (nI (t / 35)) (nI (tA t)) (nI (tQ t)) (rSd S n y t) (by omega) (by omega) (by omega) (by omega)) (cwV 6 cx.2.2.2.2 (good_V wm_405 wm_403 wm_404 wm_560 wm_5) rfl rfl rfl (by decide +kernel) ⟨Nat.le_of_ble_eq_true rfl, Nat.le_of_ble_eq_true rfl⟩) gj_rP 0 2 rfl rfl rfl rfl rfl (Nat.le_of_ble_eq_true rfl) d_M_to_92 ⟨Nat.zero_le _, Nat.zero_le _⟩ ?_
          refine gj_toi (y := rOb S n i y t (rSd S n y t)) (rfl) ?_
          refine gj_if_ne (pc := 95) cx d_M_to_95 (tgt := 108) rfl (fun hb8 => ?_) (fun hb8 => ?_)
          · refine gj_iincN (pc := 108) cx d_M_to_108 (k := 6) (d := 1) (lo' := [(7, .int (nI (i + 1))), (0, .ref (am 0)), (1, .int (nI t)), (2, .int (nI y)), (3, .int (nI 0)), (4, .int (nI (cntB (rPd S n t y) i))), (5, .long (rSd S n y t))]) rfl (by decide) (by decide) rfl ?_
            refine gj_goto (pc := 111) cx d_M_to_111 (tgt := 56) rfl ?_
            refine gj_pick (lo' := [(0, .ref (am 0)), (1, .int (nI t)), (2, .int (nI y)), (3, .int (nI 0)), (4, .int (nI (cntB (rPd S n t y) i))), (5, .long (rSd S n y t)), (7, .int (nI (i + 1)))]) [1, 2, 3, 4, 5, 6, 0] rfl ?_
            exact gj_eq rfl (by rw [cntB_f (rPd_f2 hb8)]) rfl (rfl) (ihi (by omega))
          · refine gj_iload_n (pc := 98) cx d_M_to_98 rfl (x := nI 0) rfl ?_
            refine gj_if_eqN (pc := 99) cx d_M_to_99 (tgt := 105) rfl (by omega) (fun hb9 => ?_) (fun hb9 => absurd hb9 (by omega))
            refine gj_iincN (pc := 105) cx d_M_to_105 (k := 4) (d := 1) (lo' := [(4, .int (nI ((cntB (rPd S n t y) i) + 1))), (0, .ref (am 0)), (1, .int (nI t)), (2, .int (nI y)), (3, .int (nI 0)), (5, .long (rSd S n y t)), (7, .int (nI i))]) rfl (by decide) (by decide) rfl ?_
            refine gj_iincN (pc := 108) cx d_M_to_108 (k := 6) (d := 1) (lo' := [(7, .int (nI (i + 1))), (4, .int (nI ((cntB (rPd S n t y) i) + 1))), (0, .ref (am 0)), (1, .int (nI t)), (2, .int (nI y)), (3, .int (nI 0)), (5, .long (rSd S n y t))]) rfl (by decide) (by decide) rfl ?_
            refine gj_goto (pc := 111) cx d_M_to_111 (tgt := 56) rfl ?_
            refine gj_pick (lo' := [(0, .ref (am 0)), (1, .int (nI t)), (2, .int (nI y)), (3, .int (nI 0)), (4, .int (nI ((cntB (rPd S n t y) i) + 1))), (5, .long (rSd S n y t)), (7, .int (nI (i + 1)))]) [2, 3, 4, 5, 1, 6, 0] rfl ?_
            exact gj_eq rfl (by rw [cntB_t (rPd_t hyc hb4 hb7 hb8)]) rfl (rfl) (ihi (by omega))
    · refine gj_iload_n (pc := 43) cx d_M_to_43 rfl (x := nI 0) rfl ?_
      refine gj_if_eqN (pc := 44) cx d_M_to_44 (tgt := 51) rfl (by omega) (fun hb10 => ?_) (fun hb10 => absurd hb10 (by omega))
      refine gj_iconst (pc := 51) cx d_M_to_51 (v := nI 0) (by decide) ?_
      exact gj_iretR (pc := 52) cx hr hlk d_M_to_52 (by rw [cntB_0 (rPd_b hb4)])

set_option maxRecDepth 100000 in
set_option maxHeartbeats 4000000 in
theorem c_M_to_l (l : Launch) (D : va_G) (cI cJ : ClassId) (am : Nat → Nat) (n f : Nat) (z : Int64) (S : RS) (t : Nat) (y : Nat) (hn : n ≤ 7) (hok : rOk S) (ht : t < 141) (hy : y < n) : MRi l y_M_to (wsM y_M_to b_M_to 8 (some .int)) { frames := 3, cells := 0, slots := 0, locals := 77 } D vwK (tyl cI cJ) (rW cI cJ am n f z S) [.ref (am 0), .int (nI t), .int (nI y), .int (nI 1)] (if fstB (rPd S n t y) n 0 = n then -1 else nI (fstB (rPd S n t y) n 0)) := by
  refine gj_enterR (own := R_M) (by decide) rfl (Nat.le_of_ble_eq_true rfl) rfl rfl (fun p e s m below meth c cx hr hlk hK => ?_)
  refine gj_iconst (pc := 0) cx d_M_to_0 (v := nI 0) (by decide) ?_
  refine gj_istore (pc := 1) cx d_M_to_1 (lo' := [(4, .int (nI 0)), (0, .ref (am 0)), (1, .int (nI t)), (2, .int (nI y)), (3, .int (nI 1))]) (by decide) rfl ?_
  refine gj_aload_n (pc := 3) cx d_M_to_3 rfl (x := am 0) rfl ?_
  refine gj_iload_n (pc := 4) cx d_M_to_4 rfl (x := nI y) rfl ?_
  refine gj_callVRi (pc := 5) (As := [.int (nI y)]) (rest := []) (v := bI (rCor S n (nI y))) cx hK (c_M_correct l D cI cJ am n f z S (nI y) (by omega) (hok)) (cwV 1 cx.2.2.2.2 (good_V wm_380 wm_378 wm_379 wm_556 wm_5) rfl rfl rfl (by decide +kernel) ⟨Nat.le_of_ble_eq_true rfl, Nat.le_of_ble_eq_true rfl⟩) gj_rP 0 2 rfl rfl rfl rfl rfl (Nat.le_of_ble_eq_true rfl) d_M_to_5 ⟨Nat.zero_le _, Nat.zero_le _⟩ ?_
  refine gj_if_eqB (pc := 8) cx d_M_to_8 (tgt := 31) rfl (fun hb1 => ?_) (fun hb1 => ?_)
  · refine gj_ldc2 (pc := 31) cx d_M_to_31 (v := (-1)) (in_WT wm_393) ?_
    refine gj_lstore (pc := 34) cx d_M_to_34 (lo' := [(5, .long (-1)), (4, .int (nI 0)), (0, .ref (am 0)), (1, .int (nI t)), (2, .int (nI y)), (3, .int (nI 1))]) (by decide) rfl ?_
    refine gj_lload (pc := 36) cx d_M_to_36 (x := (-1)) rfl ?_
    refine gj_lconst (pc := 38) cx d_M_to_38 (v := 0) (by decide) ?_
    refine gj_lcmp_ge (pc := 39) cx d_M_to_39 d_M_to_40 (tgt := 53) rfl (fun hb2 => absurd hb2 (by decide)) (fun hb2 => ?_)
    refine gj_iload_n (pc := 43) cx d_M_to_43 rfl (x := nI 1) rfl ?_
    refine gj_if_eqN (pc := 44) cx d_M_to_44 (tgt := 51) rfl (by omega) (fun hb3 => absurd hb3 (by omega)) (fun hb3 => ?_)
    refine gj_iconst (pc := 47) cx d_M_to_47 (v := (-1)) (by decide) ?_
    refine gj_goto (pc := 48) cx d_M_to_48 (tgt := 52) rfl ?_
    exact gj_iretR (pc := 52) cx hr hlk d_M_to_52 (by rw [if_pos (fstB_0 (rPd_a (by simpa [rCor_N hn hy] using hb1)) n)])
  · have hyc : rSt S y ≠ 2 := by simpa [rCor_N hn hy] using hb1
    refine gj_aload_n (pc := 11) cx d_M_to_11 rfl (x := am 0) rfl ?_
    refine gj_iload_n (pc := 12) cx d_M_to_12 rfl (x := nI y) rfl ?_
    refine gj_iload_n (pc := 13) cx d_M_to_13 rfl (x := nI t) rfl ?_
    refine gj_callSRi (pc := 14) (As := [.int (nI t)]) (rest := [.int (nI y), .ref (am 0)]) (v := nI (t / 35)) cx hK (c_M_kindOf l D (tyl cI cJ) t (by omega)) (va_cwS 1 cx.2.2.2.2 (good_S wm_383 wm_381 wm_382 wm_5) rfl rfl rfl (by decide +kernel) ⟨Nat.le_of_ble_eq_true rfl, Nat.le_of_ble_eq_true rfl⟩) (fun _ _ _ => gj_P0) rfl rfl (Nat.le_of_ble_eq_true rfl) d_M_to_14 ⟨Nat.zero_le _, Nat.zero_le _⟩ ?_
    refine gj_iload_n (pc := 17) cx d_M_to_17 rfl (x := nI t) rfl ?_
    refine gj_callSRi (pc := 18) (As := [.int (nI t)]) (rest := [.int (nI (t / 35)), .int (nI y), .ref (am 0)]) (v := nI (tA t)) cx hK (c_M_accountOf l D (tyl cI cJ) t (by omega)) (va_cwS 1 cx.2.2.2.2 (good_S wm_386 wm_384 wm_385 wm_5) rfl rfl rfl (by decide +kernel) ⟨Nat.le_of_ble_eq_true rfl, Nat.le_of_ble_eq_true rfl⟩) (fun _ _ _ => gj_P0) rfl rfl (Nat.le_of_ble_eq_true rfl) d_M_to_18 ⟨Nat.zero_le _, Nat.zero_le _⟩ ?_
    refine gj_iload_n (pc := 21) cx d_M_to_21 rfl (x := nI t) rfl ?_
    refine gj_callSRi (pc := 22) (As := [.int (nI t)]) (rest := [.int (nI (tA t)), .int (nI (t / 35)), .int (nI y), .ref (am 0)]) (v := nI (tQ t)) cx hK (c_M_seqOf l D (tyl cI cJ) t (by omega)) (va_cwS 1 cx.2.2.2.2 (good_S wm_389 wm_387 wm_388 wm_5) rfl rfl rfl (by decide +kernel) ⟨Nat.le_of_ble_eq_true rfl, Nat.le_of_ble_eq_true rfl⟩) (fun _ _ _ => gj_P0) rfl rfl (Nat.le_of_ble_eq_true rfl) d_M_to_22 ⟨Nat.zero_le _, Nat.zero_le _⟩ ?_
    refine gj_callVRl (pc := 25) (As := [.int (nI y), .int (nI (t / 35)), .int (nI (tA t)), .int (nI (tQ t))]) (rest := []) (v := rSaidC S n y (nI (t / 35)) (nI (tA t)) (nI (tQ t))) cx hK (c_M_said l D cI cJ am n f z S y (nI (t / 35)) (nI (tA t)) (nI (tQ t)) (by omega) (by omega) (by omega)) (cwV 4 cx.2.2.2.2 (good_V wm_392 wm_390 wm_391 wm_557 wm_5) rfl rfl rfl (by decide +kernel) ⟨Nat.le_of_ble_eq_true rfl, Nat.le_of_ble_eq_true rfl⟩) gj_rP 0 2 rfl rfl rfl rfl rfl (Nat.le_of_ble_eq_true rfl) d_M_to_25 ⟨Nat.zero_le _, Nat.zero_le _⟩ ?_
    refine gj_tol (y := rSd S n y t) (rfl) ?_
    refine gj_goto (pc := 28) cx d_M_to_28 (tgt := 34) rfl ?_
    refine gj_lstore (pc := 34) cx d_M_to_34 (lo' := [(5, .long (rSd S n y t)), (4, .int (nI 0)), (0, .ref (am 0)), (1, .int (nI t)), (2, .int (nI y)), (3, .int (nI 1))]) (by decide) rfl ?_
    refine gj_lload (pc := 36) cx d_M_to_36 (x := rSd S n y t) rfl ?_
    refine gj_lconst (pc := 38) cx d_M_to_38 (v := 0) (by decide) ?_
    refine gj_lcmp_ge (pc := 39) cx d_M_to_39 d_M_to_40 (tgt := 53) rfl (fun hb4 => ?_) (fun hb4 => ?_)
    · refine gj_iconst (pc := 53) cx d_M_to_53 (v := nI 0) (by decide) ?_
      refine gj_istore (pc := 54) cx d_M_to_54 (lo' := [(7, .int (nI 0)), (5, .long (rSd S n y t)), (4, .int (nI 0)), (0, .ref (am 0)), (1, .int (nI t)), (2, .int (nI y)), (3, .int (nI 1))]) (by decide) rfl ?_
      refine gj_pick (lo' := [(0, .ref (am 0)), (1, .int (nI t)), (2, .int (nI y)), (3, .int (nI 1)), (4, .int (nI 0)), (5, .long (rSd S n y t)), (7, .int (nI 0))]) [3, 4, 5, 6, 2, 1, 0] rfl ?_
      refine gj_forH (G := Gj p l e _ s m _ below meth c _ _ _ _ _) (fun i => fstB (rPd S n t y) (n - i) i = fstB (rPd S n t y) n 0) n 56 (fun i => [(0, .ref (am 0)), (1, .int (nI t)), (2, .int (nI y)), (3, .int (nI 1)), (4, .int (nI 0)), (5, .long (rSd S n y t)), (7, .int (nI i))]) (fun i => rW cI cJ am n f z S) (fun i hi ihi qi => ?_) 0 (by omega) (rfl)
      refine gj_iload (pc := 56) cx d_M_to_56 (x := nI i) rfl ?_
      refine gj_aload_n (pc := 58) cx d_M_to_58 rfl (x := am 0) rfl ?_
      refine gj_get (pc := 59) (ci := 2) (C := R_M) (T := T_M) (N := 15) (v := .int (nI n)) cx hK gj_rP in_M d_M_to_59 0 rfl rfl 0 (by decide) (in_WT wm_341) rfl ?_
      refine gj_icmp_geN (pc := 62) cx d_M_to_62 (tgt := 114) rfl (by omega) (by omega) (fun hb5 => ?_) (fun hb5 => ?_)
      · refine gj_iload_n (pc := 114) cx d_M_to_114 rfl (x := nI 1) rfl ?_
        refine gj_if_eqN (pc := 115) cx d_M_to_115 (tgt := 122) rfl (by omega) (fun hb6 => absurd hb6 (by omega)) (fun hb6 => ?_)
        refine gj_iconst (pc := 118) cx d_M_to_118 (v := (-1)) (by decide) ?_
        refine gj_goto (pc := 119) cx d_M_to_119 (tgt := 124) rfl ?_
        exact gj_iretR (pc := 124) cx hr hlk d_M_to_124 (by have e : fstB (rPd S n t y) n 0 = n := qi.symm.trans ((fstB_e (by omega)).trans (by omega)); rw [if_pos e])
      · refine gj_aload_n (pc := 65) cx d_M_to_65 rfl (x := am 0) rfl ?_
        refine gj_iload (pc := 66) cx d_M_to_66 (x := nI i) rfl ?_
        refine gj_callVRi (pc := 68) (As := [.int (nI i)]) (rest := []) (v := bI (rUp S n (nI i))) cx hK (c_M_up l D cI cJ am n f z S (nI i) (by omega) (by omega)) (cwV 1 cx.2.2.2.2 (good_V wm_402 wm_400 wm_401 wm_559 wm_5) rfl rfl rfl (by decide +kernel) ⟨Nat.le_of_ble_eq_true rfl, Nat.le_of_ble_eq_true rfl⟩) gj_rP 0 2 rfl rfl rfl rfl rfl (Nat.le_of_ble_eq_true rfl) d_M_to_68 ⟨Nat.zero_le _, Nat.zero_le _⟩ ?_
        refine gj_if_eqB (pc := 71) cx d_M_to_71 (tgt := 108) rfl (fun hb7 => ?_) (fun hb7 => ?_)
        · refine gj_iincN (pc := 108) cx d_M_to_108 (k := 6) (d := 1) (lo' := [(7, .int (nI (i + 1))), (0, .ref (am 0)), (1, .int (nI t)), (2, .int (nI y)), (3, .int (nI 1)), (4, .int (nI 0)), (5, .long (rSd S n y t))]) rfl (by decide) (by decide) rfl ?_
          refine gj_goto (pc := 111) cx d_M_to_111 (tgt := 56) rfl ?_
          refine gj_pick (lo' := [(0, .ref (am 0)), (1, .int (nI t)), (2, .int (nI y)), (3, .int (nI 1)), (4, .int (nI 0)), (5, .long (rSd S n y t)), (7, .int (nI (i + 1)))]) [1, 2, 3, 4, 5, 6, 0] rfl ?_
          exact gj_eq rfl (rfl) rfl (rfl) (ihi (by omega) ((fstB_f (by omega) (rPd_f1 hb7)).symm.trans qi))
        · refine gj_aload_n (pc := 74) cx d_M_to_74 rfl (x := am 0) rfl ?_
          refine gj_iload (pc := 75) cx d_M_to_75 (x := nI i) rfl ?_
          refine gj_iload_n (pc := 77) cx d_M_to_77 rfl (x := nI y) rfl ?_
          refine gj_iload_n (pc := 78) cx d_M_to_78 rfl (x := nI t) rfl ?_
          refine gj_callSRi (pc := 79) (As := [.int (nI t)]) (rest := [.int (nI y), .int (nI i), .ref (am 0)]) (v := nI (t / 35)) cx hK (c_M_kindOf l D (tyl cI cJ) t (by omega)) (va_cwS 1 cx.2.2.2.2 (good_S wm_383 wm_381 wm_382 wm_5) rfl rfl rfl (by decide +kernel) ⟨Nat.le_of_ble_eq_true rfl, Nat.le_of_ble_eq_true rfl⟩) (fun _ _ _ => gj_P0) rfl rfl (Nat.le_of_ble_eq_true rfl) d_M_to_79 ⟨Nat.zero_le _, Nat.zero_le _⟩ ?_
          refine gj_iload_n (pc := 82) cx d_M_to_82 rfl (x := nI t) rfl ?_
          refine gj_callSRi (pc := 83) (As := [.int (nI t)]) (rest := [.int (nI (t / 35)), .int (nI y), .int (nI i), .ref (am 0)]) (v := nI (tA t)) cx hK (c_M_accountOf l D (tyl cI cJ) t (by omega)) (va_cwS 1 cx.2.2.2.2 (good_S wm_386 wm_384 wm_385 wm_5) rfl rfl rfl (by decide +kernel) ⟨Nat.le_of_ble_eq_true rfl, Nat.le_of_ble_eq_true rfl⟩) (fun _ _ _ => gj_P0) rfl rfl (Nat.le_of_ble_eq_true rfl) d_M_to_83 ⟨Nat.zero_le _, Nat.zero_le _⟩ ?_
          refine gj_iload_n (pc := 86) cx d_M_to_86 rfl (x := nI t) rfl ?_
          refine gj_callSRi (pc := 87) (As := [.int (nI t)]) (rest := [.int (nI (tA t)), .int (nI (t / 35)), .int (nI y), .int (nI i), .ref (am 0)]) (v := nI (tQ t)) cx hK (c_M_seqOf l D (tyl cI cJ) t (by omega)) (va_cwS 1 cx.2.2.2.2 (good_S wm_389 wm_387 wm_388 wm_5) rfl rfl rfl (by decide +kernel) ⟨Nat.le_of_ble_eq_true rfl, Nat.le_of_ble_eq_true rfl⟩) (fun _ _ _ => gj_P0) rfl rfl (Nat.le_of_ble_eq_true rfl) d_M_to_87 ⟨Nat.zero_le _, Nat.zero_le _⟩ ?_
          refine gj_lload (pc := 90) cx d_M_to_90 (x := rSd S n y t) rfl ?_
          refine gj_callVRi (pc := 92) (As := [.int (nI i), .int (nI y), .int (nI (t / 35)), .int (nI (tA t)), .int (nI (tQ t)), .long (rSd S n y t)]) (rest := []) (v := rObjC S n i y (nI (t / 35)) (nI (tA t)) (nI (tQ t)) (rSd S n y t)) cx hK (c_M_objection l D cI cJ am n f z S i y (nI (t / 35)) (nI (tA t)) (nI (tQ t)) (rSd S n y t) (by omega) (by omega) (by omega) (by omega)) (cwV 6 cx.2.2.2.2 (good_V wm_405 wm_403 wm_404 wm_560 wm_5) rfl rfl rfl (by decide +kernel) ⟨Nat.le_of_ble_eq_true rfl, Nat.le_of_ble_eq_true rfl⟩) gj_rP 0 2 rfl rfl rfl rfl rfl (Nat.le_of_ble_eq_true rfl) d_M_to_92 ⟨Nat.zero_le _, Nat.zero_le _⟩ ?_
          refine gj_toi (y := rOb S n i y t (rSd S n y t)) (rfl) ?_
          refine gj_if_ne (pc := 95) cx d_M_to_95 (tgt := 108) rfl (fun hb8 => ?_) (fun hb8 => ?_)
          · refine gj_iincN (pc := 108) cx d_M_to_108 (k := 6) (d := 1) (lo' := [(7, .int (nI (i + 1))), (0, .ref (am 0)), (1, .int (nI t)), (2, .int (nI y)), (3, .int (nI 1)), (4, .int (nI 0)), (5, .long (rSd S n y t))]) rfl (by decide) (by decide) rfl ?_
            refine gj_goto (pc := 111) cx d_M_to_111 (tgt := 56) rfl ?_
            refine gj_pick (lo' := [(0, .ref (am 0)), (1, .int (nI t)), (2, .int (nI y)), (3, .int (nI 1)), (4, .int (nI 0)), (5, .long (rSd S n y t)), (7, .int (nI (i + 1)))]) [1, 2, 3, 4, 5, 6, 0] rfl ?_
            exact gj_eq rfl (rfl) rfl (rfl) (ihi (by omega) ((fstB_f (by omega) (rPd_f2 hb8)).symm.trans qi))
          · refine gj_iload_n (pc := 98) cx d_M_to_98 rfl (x := nI 1) rfl ?_
            refine gj_if_eqN (pc := 99) cx d_M_to_99 (tgt := 105) rfl (by omega) (fun hb9 => absurd hb9 (by omega)) (fun hb9 => ?_)
            refine gj_iload (pc := 102) cx d_M_to_102 (x := nI i) rfl ?_
            exact gj_iretR (pc := 104) cx hr hlk d_M_to_104 (by have e : fstB (rPd S n t y) n 0 = i := qi.symm.trans (fstB_t (by omega) (rPd_t hyc hb4 hb7 hb8)); rw [e, if_neg (by omega)])
    · refine gj_iload_n (pc := 43) cx d_M_to_43 rfl (x := nI 1) rfl ?_
      refine gj_if_eqN (pc := 44) cx d_M_to_44 (tgt := 51) rfl (by omega) (fun hb10 => absurd hb10 (by omega)) (fun hb10 => ?_)
      refine gj_iconst (pc := 47) cx d_M_to_47 (v := (-1)) (by decide) ?_
      refine gj_goto (pc := 48) cx d_M_to_48 (tgt := 52) rfl ?_
      exact gj_iretR (pc := 52) cx hr hlk d_M_to_52 (by rw [if_pos (fstB_0 (rPd_b hb4) n)])

set_option maxRecDepth 100000 in
set_option maxHeartbeats 4000000 in
theorem c_M_pending (l : Launch) (D : va_G) (cI cJ : ClassId) (am : Nat → Nat) (n f : Nat) (z : Int64) (S : RS)  (hn : n ≤ 7) (hok : rOk S) : MRi l y_M_pending (wsM y_M_pending b_M_pending 4 (some .int)) { frames := 4, cells := 0, slots := 0, locals := 104 } D vwK (tyl cI cJ) (rW cI cJ am n f z S) [.ref (am 0)] (nI (rPend S n)) := by
  refine gj_enterR (own := R_M) (by decide) rfl (Nat.le_of_ble_eq_true rfl) rfl rfl (fun p e s m below meth c cx hr hlk hK => ?_)
  refine gj_iconst (pc := 0) cx d_M_pending_0 (v := nI 0) (by decide) ?_
  refine gj_istore_n (pc := 1) cx d_M_pending_1 rfl (lo' := [(1, .int (nI 0)), (0, .ref (am 0))]) (by decide) rfl ?_
  refine gj_iconst (pc := 2) cx d_M_pending_2 (v := nI 0) (by decide) ?_
  refine gj_istore_n (pc := 3) cx d_M_pending_3 rfl (lo' := [(2, .int (nI 0)), (1, .int (nI 0)), (0, .ref (am 0))]) (by decide) rfl ?_
  refine gj_pick (lo' := [(0, .ref (am 0)), (1, .int (nI 0)), (2, .int (nI 0))]) [2, 1, 0] rfl ?_
  refine gj_forG (G := Gj p l e _ s m _ below meth c _ _ _ _ _) 141 4 (fun t => [(0, .ref (am 0)), (1, .int (nI (sumN (fun t => sumN (fun y => cntB (rPd S n t y) n) n) t))), (2, .int (nI t))]) (fun t => rW cI cJ am n f z S) (fun t ht iht => ?_) 0 (by omega)
  refine gj_iload_n (pc := 4) cx d_M_pending_4 rfl (x := nI t) rfl ?_
  refine gj_sipush (pc := 5) cx d_M_pending_5 (v := nI 140) (by decide) ?_
  refine gj_icmp_gtN (pc := 8) cx d_M_pending_8 (tgt := 43) rfl (by omega) (by omega) (fun hb1 => ?_) (fun hb1 => ?_)
  · refine gj_iload_n (pc := 43) cx d_M_pending_43 rfl (x := nI (sumN (fun t => sumN (fun y => cntB (rPd S n t y) n) n) t)) rfl ?_
    exact gj_iretR (pc := 44) cx hr hlk d_M_pending_44 (by rw [show t = 141 from (by omega)]; rfl)
  · refine gj_iconst (pc := 11) cx d_M_pending_11 (v := nI 0) (by decide) ?_
    refine gj_istore_n (pc := 12) cx d_M_pending_12 rfl (lo' := [(3, .int (nI 0)), (0, .ref (am 0)), (1, .int (nI (sumN (fun t => sumN (fun y => cntB (rPd S n t y) n) n) t))), (2, .int (nI t))]) (by decide) rfl ?_
    refine gj_pick (lo' := [(0, .ref (am 0)), (1, .int (nI (sumN (fun t => sumN (fun y => cntB (rPd S n t y) n) n) t))), (2, .int (nI t)), (3, .int (nI 0))]) [1, 2, 3, 0] rfl ?_
    refine gj_forG (G := Gj p l e _ s m _ below meth c _ _ _ _ _) n 13 (fun y => [(0, .ref (am 0)), (1, .int (nI (sumN (fun t => sumN (fun y => cntB (rPd S n t y) n) n) t + sumN (fun y => cntB (rPd S n t y) n) y))), (2, .int (nI t)), (3, .int (nI y))]) (fun y => rW cI cJ am n f z S) (fun y hy ihy => ?_) 0 (by omega)
    refine gj_iload_n (pc := 13) cx d_M_pending_13 rfl (x := nI y) rfl ?_
    refine gj_aload_n (pc := 14) cx d_M_pending_14 rfl (x := am 0) rfl ?_
    refine gj_get (pc := 15) (ci := 2) (C := R_M) (T := T_M) (N := 15) (v := .int (nI n)) cx hK gj_rP in_M d_M_pending_15 0 rfl rfl 0 (by decide) (in_WT wm_341) rfl ?_
    refine gj_icmp_geN (pc := 18) cx d_M_pending_18 (tgt := 37) rfl (by omega) (by omega) (fun hb2 => ?_) (fun hb2 => ?_)
    · refine gj_iincN (pc := 37) cx d_M_pending_37 (k := 2) (d := 1) (lo' := [(2, .int (nI (t + 1))), (0, .ref (am 0)), (1, .int (nI (sumN (fun t => sumN (fun y => cntB (rPd S n t y) n) n) t + sumN (fun y => cntB (rPd S n t y) n) y))), (3, .int (nI y))]) rfl (by decide) (by decide) rfl ?_
      refine gj_goto (pc := 40) cx d_M_pending_40 (tgt := 4) rfl ?_
      refine gj_pick (lo' := [(0, .ref (am 0)), (1, .int (nI (sumN (fun t => sumN (fun y => cntB (rPd S n t y) n) n) t + sumN (fun y => cntB (rPd S n t y) n) y))), (2, .int (nI (t + 1)))]) [1, 2, 0] rfl ?_
      exact gj_eq rfl (by simp [sumN, show y = n from (by omega)]) rfl (rfl) (iht (by omega))
    · refine gj_iload_n (pc := 21) cx d_M_pending_21 rfl (x := nI (sumN (fun t => sumN (fun y => cntB (rPd S n t y) n) n) t + sumN (fun y => cntB (rPd S n t y) n) y)) rfl ?_
      refine gj_aload_n (pc := 22) cx d_M_pending_22 rfl (x := am 0) rfl ?_
      refine gj_iload_n (pc := 23) cx d_M_pending_23 rfl (x := nI t) rfl ?_
      refine gj_iload_n (pc := 24) cx d_M_pending_24 rfl (x := nI y) rfl ?_
      refine gj_iconst (pc := 25) cx d_M_pending_25 (v := nI 0) (by decide) ?_
      refine gj_callVRi (pc := 26) (As := [.int (nI t), .int (nI y), .int (nI 0)]) (rest := [.int (nI (sumN (fun t => sumN (fun y => cntB (rPd S n t y) n) n) t + sumN (fun y => cntB (rPd S n t y) n) y))]) (v := nI (cntB (rPd S n t y) n)) cx hK (c_M_to_p l D cI cJ am n f z S t y (by omega) (hok) (by omega) (by omega)) (cwV 3 cx.2.2.2.2 (good_V wm_377 wm_375 wm_376 wm_555 wm_5) rfl rfl rfl (by decide +kernel) ⟨Nat.le_of_ble_eq_true rfl, Nat.le_of_ble_eq_true rfl⟩) gj_rP 0 2 rfl rfl rfl rfl rfl (Nat.le_of_ble_eq_true rfl) d_M_pending_26 ⟨Nat.zero_le _, Nat.zero_le _⟩ ?_
      refine gj_iaddN (pc := 29) cx d_M_pending_29 ?_
      refine gj_istore_n (pc := 30) cx d_M_pending_30 rfl (lo' := [(1, .int (nI ((sumN (fun t => sumN (fun y => cntB (rPd S n t y) n) n) t + sumN (fun y => cntB (rPd S n t y) n) y) + (cntB (rPd S n t y) n)))), (0, .ref (am 0)), (2, .int (nI t)), (3, .int (nI y))]) (by decide) rfl ?_
      refine gj_iincN (pc := 31) cx d_M_pending_31 (k := 3) (d := 1) (lo' := [(3, .int (nI (y + 1))), (1, .int (nI ((sumN (fun t => sumN (fun y => cntB (rPd S n t y) n) n) t + sumN (fun y => cntB (rPd S n t y) n) y) + (cntB (rPd S n t y) n)))), (0, .ref (am 0)), (2, .int (nI t))]) rfl (by decide) (by decide) rfl ?_
      refine gj_goto (pc := 34) cx d_M_pending_34 (tgt := 13) rfl ?_
      refine gj_pick (lo' := [(0, .ref (am 0)), (1, .int (nI ((sumN (fun t => sumN (fun y => cntB (rPd S n t y) n) n) t + sumN (fun y => cntB (rPd S n t y) n) y) + (cntB (rPd S n t y) n)))), (2, .int (nI t)), (3, .int (nI (y + 1)))]) [2, 1, 3, 0] rfl ?_
      exact gj_eq rfl (by simp [sumN, Nat.add_assoc]) rfl (rfl) (ihy (by omega))

set_option maxRecDepth 100000 in
set_option maxHeartbeats 4000000 in
theorem c_M_crash (l : Launch) (D : va_G) (cI cJ : ClassId) (am : Nat → Nat) (n f : Nat) (z : Int64) (S : RS) (nd : Int32) (hn : n ≤ 7) (hok : rOk S) (sz : Nat) : MWi l y_M_crash (wsM y_M_crash b_M_crash 2 (some .boolean)) { frames := 1, cells := 0, slots := 0, locals := 22 } D vwK (tyl cI cJ) (rW cI cJ am n f z S) (rW cI cJ am n f z ((rCrash S n nd).2)) sz [.ref (am 0), .int nd] (bI ((rCrash S n nd).1)) := by
  refine gj_enterW (own := R_M) (by decide) rfl (Nat.le_of_ble_eq_true rfl) rfl rfl (fun p e s m below meth c cx hr hlk hK hsz => ?_)
  have hA : ∀ q, s.heap.size ≤ q → va_A (rW cI cJ am n f z S) sz q := fun q h => Or.inr (hsz ▸ h)
  refine gj_aload_n (pc := 0) cx d_M_crash_0 rfl (x := am 0) rfl ?_
  refine gj_iload_n (pc := 1) cx d_M_crash_1 rfl (x := nd) rfl ?_
  refine gj_callVRi (pc := 2) (As := [.int nd]) (rest := []) (v := bI (rUp S n nd)) cx hK (c_M_up l D cI cJ am n f z S nd (by omega) (hok)) (cwV 1 cx.2.2.2.2 (good_V wm_402 wm_400 wm_401 wm_559 wm_5) rfl rfl rfl (by decide +kernel) ⟨Nat.le_of_ble_eq_true rfl, Nat.le_of_ble_eq_true rfl⟩) gj_wP 0 2 rfl rfl rfl rfl rfl (Nat.le_of_ble_eq_true rfl) d_M_crash_2 ⟨Nat.zero_le _, Nat.zero_le _⟩ ?_
  refine gj_if_neB (pc := 5) cx d_M_crash_5 (tgt := 10) rfl (fun hb1 => ?_) (fun hb1 => ?_)
  · obtain ⟨x, hx, rfl, hxu⟩ := rUp_of hn hb1
    refine gj_aload_n (pc := 10) cx d_M_crash_10 rfl (x := am 0) rfl ?_
    refine gj_iload_n (pc := 11) cx d_M_crash_11 rfl (x := nI x) rfl ?_
    refine gj_callVWv (pc := 12) (As := [.int (nI x)]) (rest := []) (ws' := rW cI cJ am n f z (rFall S x)) cx hK hA (fun sz => c_M_fall l D cI cJ am n f z S x (by omega) sz) (cwV 1 cx.2.2.2.2 (good_V wm_449 wm_447 wm_448 wm_568 wm_5) rfl rfl rfl (by decide +kernel) ⟨Nat.le_of_ble_eq_true rfl, Nat.le_of_ble_eq_true rfl⟩) gj_J.self 0 2 rfl rfl rfl rfl rfl (Nat.le_of_ble_eq_true rfl) d_M_crash_12 ⟨Nat.zero_le _, Nat.zero_le _⟩ ?_
    refine gj_iconst (pc := 15) cx d_M_crash_15 (v := nI 1) (by decide) ?_
    exact gj_zretW (pc := 16) cx hr hlk d_M_crash_16 rfl (by rw [rCrash, if_pos hb1, xN_nI (by omega)] <;> rfl) (by rw [rCrash, if_pos hb1, xN_nI (by omega)] <;> rfl)
  · refine gj_iconst (pc := 8) cx d_M_crash_8 (v := nI 0) (by decide) ?_
    exact gj_zretW (pc := 9) cx hr hlk d_M_crash_9 rfl (by rw [rCrash, if_neg (by rw [hb1]; decide)] <;> rfl) (by rw [rCrash, if_neg (by rw [hb1]; decide)] <;> rfl)

set_option maxRecDepth 100000 in
set_option maxHeartbeats 4000000 in
theorem c_M_restart (l : Launch) (D : va_G) (cI cJ : ClassId) (am : Nat → Nat) (n f : Nat) (z : Int64) (S : RS) (nd : Int32) (hn : n ≤ 7) (hok : rOk S) (sz : Nat) : MWi l y_M_restart (wsM y_M_restart b_M_restart 2 (some .boolean)) { frames := 1, cells := 0, slots := 0, locals := 21 } D vwK (tyl cI cJ) (rW cI cJ am n f z S) (rW cI cJ am n f z ((rRest S n nd).2)) sz [.ref (am 0), .int nd] (bI ((rRest S n nd).1)) := by
  refine gj_enterW (own := R_M) (by decide) rfl (Nat.le_of_ble_eq_true rfl) rfl rfl (fun p e s m below meth c cx hr hlk hK hsz => ?_)
  have hA : ∀ q, s.heap.size ≤ q → va_A (rW cI cJ am n f z S) sz q := fun q h => Or.inr (hsz ▸ h)
  refine gj_aload_n (pc := 0) cx d_M_restart_0 rfl (x := am 0) rfl ?_
  refine gj_iload_n (pc := 1) cx d_M_restart_1 rfl (x := nd) rfl ?_
  refine gj_callVRi (pc := 2) (As := [.int nd]) (rest := []) (v := bI (rCor S n nd)) cx hK (c_M_correct l D cI cJ am n f z S nd (by omega) (hok)) (cwV 1 cx.2.2.2.2 (good_V wm_380 wm_378 wm_379 wm_556 wm_5) rfl rfl rfl (by decide +kernel) ⟨Nat.le_of_ble_eq_true rfl, Nat.le_of_ble_eq_true rfl⟩) gj_wP 0 2 rfl rfl rfl rfl rfl (Nat.le_of_ble_eq_true rfl) d_M_restart_2 ⟨Nat.zero_le _, Nat.zero_le _⟩ ?_
  refine gj_if_eqB (pc := 5) cx d_M_restart_5 (tgt := 18) rfl (fun hb1 => ?_) (fun hb1 => ?_)
  · refine gj_iconst (pc := 18) cx d_M_restart_18 (v := nI 0) (by decide) ?_
    exact gj_zretW (pc := 19) cx hr hlk d_M_restart_19 rfl (by rw [rRest, if_neg (fun z => by rw [hb1] at z; cases z.1)] <;> rfl) (by rw [rRest, if_neg (fun z => by rw [hb1] at z; cases z.1)] <;> rfl)
  · obtain ⟨x, hx, rfl, hxc⟩ := rCor_of hn hb1
    refine gj_aload_n (pc := 8) cx d_M_restart_8 rfl (x := am 0) rfl ?_
    refine gj_get (pc := 9) (ci := 2) (C := R_M) (T := T_M) (N := 15) (v := .ref (am 1)) cx hK gj_wP in_M d_M_restart_9 0 rfl rfl 3 (by decide) (in_WT wm_344) rfl ?_
    refine gj_iload_n (pc := 12) cx d_M_restart_12 rfl (x := nI x) rfl ?_
    refine gj_ialdN (pc := 13) (i := x) (f := rSt S) cx hK gj_wP d_M_restart_13 1 0 rfl rfl (by omega) (by decide) ?_
    have hv2 := hok.1 x
    refine gj_iconst (pc := 14) cx d_M_restart_14 (v := nI 1) (by decide) ?_
    refine gj_icmp_eqN (pc := 15) cx d_M_restart_15 (tgt := 20) rfl (by omega) (by omega) (fun hb3 => ?_) (fun hb3 => ?_)
    · refine gj_aload_n (pc := 20) cx d_M_restart_20 rfl (x := am 0) rfl ?_
      refine gj_get (pc := 21) (ci := 2) (C := R_M) (T := T_M) (N := 15) (v := .ref (am 1)) cx hK gj_wP in_M d_M_restart_21 0 rfl rfl 3 (by decide) (in_WT wm_344) rfl ?_
      refine gj_iload_n (pc := 24) cx d_M_restart_24 rfl (x := nI x) rfl ?_
      refine gj_iconst (pc := 25) cx d_M_restart_25 (v := nI 0) (by decide) ?_
      refine gj_iastN (pc := 26) (i := x) (f := rSt S) (x := 0) (ws' := rW cI cJ am n f z (va_up (rSt S) x 0, rFu S, rSu S, rOw S, rEc S, rRe S, rAp S, rFr S, rMa S, rHe S, rHm S, rAc S)) cx hK d_M_restart_26 1 0 rfl rfl (by omega) (by decide) rfl ?_
      refine gj_iconst (pc := 27) cx d_M_restart_27 (v := nI 1) (by decide) ?_
      exact gj_zretW (pc := 28) cx hr hlk d_M_restart_28 rfl (by rw [rRest, if_pos ⟨hb1, by rw [xN_nI (by omega)]; exact hb3⟩, xN_nI (by omega)] <;> rfl) (by rw [rRest, if_pos ⟨hb1, by rw [xN_nI (by omega)]; exact hb3⟩, xN_nI (by omega)] <;> rfl)
    · refine gj_iconst (pc := 18) cx d_M_restart_18 (v := nI 0) (by decide) ?_
      exact gj_zretW (pc := 19) cx hr hlk d_M_restart_19 rfl (by rw [rRest, if_neg (fun z => hb3 (by rw [xN_nI (by omega)] at z; exact z.2))] <;> rfl) (by rw [rRest, if_neg (fun z => hb3 (by rw [xN_nI (by omega)] at z; exact z.2))] <;> rfl)

set_option maxRecDepth 100000 in
set_option maxHeartbeats 4000000 in
theorem c_M_fuse (l : Launch) (D : va_G) (cI cJ : ClassId) (am : Nat → Nat) (n f : Nat) (z : Int64) (S : RS) (nd : Int32) (kd : Int32) (hn : n ≤ 7) (hok : rOk S) (sz : Nat) : MWi l y_M_fuse (wsM y_M_fuse b_M_fuse 3 (some .boolean)) { frames := 1, cells := 0, slots := 0, locals := 21 } D vwK (tyl cI cJ) (rW cI cJ am n f z S) (rW cI cJ am n f z ((rFuse S n nd kd).2)) sz [.ref (am 0), .int nd, .int kd] (bI ((rFuse S n nd kd).1)) := by
  refine gj_enterW (own := R_M) (by decide) rfl (Nat.le_of_ble_eq_true rfl) rfl rfl (fun p e s m below meth c cx hr hlk hK hsz => ?_)
  have hA : ∀ q, s.heap.size ≤ q → va_A (rW cI cJ am n f z S) sz q := fun q h => Or.inr (hsz ▸ h)
  refine gj_aload_n (pc := 0) cx d_M_fuse_0 rfl (x := am 0) rfl ?_
  refine gj_iload_n (pc := 1) cx d_M_fuse_1 rfl (x := nd) rfl ?_
  refine gj_callVRi (pc := 2) (As := [.int nd]) (rest := []) (v := bI (rUp S n nd)) cx hK (c_M_up l D cI cJ am n f z S nd (by omega) (hok)) (cwV 1 cx.2.2.2.2 (good_V wm_402 wm_400 wm_401 wm_559 wm_5) rfl rfl rfl (by decide +kernel) ⟨Nat.le_of_ble_eq_true rfl, Nat.le_of_ble_eq_true rfl⟩) gj_wP 0 2 rfl rfl rfl rfl rfl (Nat.le_of_ble_eq_true rfl) d_M_fuse_2 ⟨Nat.zero_le _, Nat.zero_le _⟩ ?_
  refine gj_if_eqB (pc := 5) cx d_M_fuse_5 (tgt := 18) rfl (fun hb1 => ?_) (fun hb1 => ?_)
  · refine gj_iconst (pc := 18) cx d_M_fuse_18 (v := nI 0) (by decide) ?_
    exact gj_zretW (pc := 19) cx hr hlk d_M_fuse_19 rfl (by rw [rFuse, if_neg (fun z => by rw [hb1] at z; cases z.1)] <;> rfl) (by rw [rFuse, if_neg (fun z => by rw [hb1] at z; cases z.1)] <;> rfl)
  · refine gj_iload_n (pc := 8) cx d_M_fuse_8 rfl (x := kd) rfl ?_
    refine gj_if_lt (pc := 9) cx d_M_fuse_9 (tgt := 18) rfl (fun hb2 => ?_) (fun hb2 => ?_)
    · refine gj_iconst (pc := 18) cx d_M_fuse_18 (v := nI 0) (by decide) ?_
      exact gj_zretW (pc := 19) cx hr hlk d_M_fuse_19 rfl (by rw [rFuse, if_neg (fun z => z.2.1 hb2)] <;> rfl) (by rw [rFuse, if_neg (fun z => z.2.1 hb2)] <;> rfl)
    · refine gj_iload_n (pc := 12) cx d_M_fuse_12 rfl (x := kd) rfl ?_
      refine gj_bipush (pc := 13) cx d_M_fuse_13 (v := nI 9) (by decide) ?_
      refine gj_icmp_le (pc := 15) cx d_M_fuse_15 (tgt := 20) rfl (fun hb3 => ?_) (fun hb3 => ?_)
      · obtain ⟨x, hx, rfl, hxu⟩ := rUp_of hn hb1
        obtain ⟨k, hk, rfl⟩ := nI_of2 (M := 9) (n := 9) (by decide) hb2 hb3
        refine gj_aload_n (pc := 20) cx d_M_fuse_20 rfl (x := am 0) rfl ?_
        refine gj_get (pc := 21) (ci := 2) (C := R_M) (T := T_M) (N := 15) (v := .ref (am 2)) cx hK gj_wP in_M d_M_fuse_21 0 rfl rfl 4 (by decide) (in_WT wm_345) rfl ?_
        refine gj_iload_n (pc := 24) cx d_M_fuse_24 rfl (x := nI x) rfl ?_
        refine gj_iload_n (pc := 25) cx d_M_fuse_25 rfl (x := nI k) rfl ?_
        refine gj_iastN (pc := 26) (i := x) (f := rFu S) (x := k) (ws' := rW cI cJ am n f z (rSt S, va_up (rFu S) x k, rSu S, rOw S, rEc S, rRe S, rAp S, rFr S, rMa S, rHe S, rHm S, rAc S)) cx hK d_M_fuse_26 2 0 rfl rfl (by omega) (by decide) rfl ?_
        refine gj_iconst (pc := 27) cx d_M_fuse_27 (v := nI 1) (by decide) ?_
        exact gj_zretW (pc := 28) cx hr hlk d_M_fuse_28 rfl (by rw [rFuse, if_pos ⟨hb1, hb2, hb3⟩, xN_nI (by omega), xN_nI (by omega)] <;> rfl) (by rw [rFuse, if_pos ⟨hb1, hb2, hb3⟩, xN_nI (by omega), xN_nI (by omega)] <;> rfl)
      · refine gj_iconst (pc := 18) cx d_M_fuse_18 (v := nI 0) (by decide) ?_
        exact gj_zretW (pc := 19) cx hr hlk d_M_fuse_19 rfl (by rw [rFuse, if_neg (fun z => hb3 z.2.2)] <;> rfl) (by rw [rFuse, if_neg (fun z => hb3 z.2.2)] <;> rfl)

set_option maxRecDepth 100000 in
set_option maxHeartbeats 4000000 in
theorem c_M_corrupt (l : Launch) (D : va_G) (cI cJ : ClassId) (am : Nat → Nat) (n f : Nat) (z : Int64) (S : RS) (nd : Int32) (hn : n ≤ 7) (hok : rOk S) (hf : f ≤ 7) (sz : Nat) : MWi l y_M_corrupt (wsM y_M_corrupt b_M_corrupt 4 (some .boolean)) { frames := 1, cells := 0, slots := 0, locals := 21 } D vwK (tyl cI cJ) (rW cI cJ am n f z S) (rW cI cJ am n f z ((rCorrupt S n f nd).2)) sz [.ref (am 0), .int nd] (bI ((rCorrupt S n f nd).1)) := by
  refine gj_enterW (own := R_M) (by decide) rfl (Nat.le_of_ble_eq_true rfl) rfl rfl (fun p e s m below meth c cx hr hlk hK hsz => ?_)
  have hA : ∀ q, s.heap.size ≤ q → va_A (rW cI cJ am n f z S) sz q := fun q h => Or.inr (hsz ▸ h)
  refine gj_iconst (pc := 0) cx d_M_corrupt_0 (v := nI 0) (by decide) ?_
  refine gj_istore_n (pc := 1) cx d_M_corrupt_1 rfl (lo' := [(2, .int (nI 0)), (0, .ref (am 0)), (1, .int nd)]) (by decide) rfl ?_
  refine gj_iconst (pc := 2) cx d_M_corrupt_2 (v := nI 0) (by decide) ?_
  refine gj_istore_n (pc := 3) cx d_M_corrupt_3 rfl (lo' := [(3, .int (nI 0)), (2, .int (nI 0)), (0, .ref (am 0)), (1, .int nd)]) (by decide) rfl ?_
  refine gj_pick (lo' := [(0, .ref (am 0)), (1, .int nd), (2, .int (nI 0)), (3, .int (nI 0))]) [2, 3, 1, 0] rfl ?_
  refine gj_forG (G := Gj p l e _ s m _ below meth c _ _ _ _ _) n 4 (fun i => [(0, .ref (am 0)), (1, .int nd), (2, .int (nI (cntB (fun y => decide (rSt S y = 2)) i))), (3, .int (nI i))]) (fun i => rW cI cJ am n f z S) (fun i hi ihi => ?_) 0 (by omega)
  refine gj_iload_n (pc := 4) cx d_M_corrupt_4 rfl (x := nI i) rfl ?_
  refine gj_aload_n (pc := 5) cx d_M_corrupt_5 rfl (x := am 0) rfl ?_
  refine gj_get (pc := 6) (ci := 2) (C := R_M) (T := T_M) (N := 15) (v := .int (nI n)) cx hK gj_wP in_M d_M_corrupt_6 0 rfl rfl 0 (by decide) (in_WT wm_341) rfl ?_
  refine gj_icmp_geN (pc := 9) cx d_M_corrupt_9 (tgt := 36) rfl (by omega) (by omega) (fun hb1 => ?_) (fun hb1 => ?_)
  · have hin : n = i := by omega
    subst hin
    have hcl := cntB_le (fun y => decide (rSt S y = 2)) n
    refine gj_aload_n (pc := 36) cx d_M_corrupt_36 rfl (x := am 0) rfl ?_
    refine gj_iload_n (pc := 37) cx d_M_corrupt_37 rfl (x := nd) rfl ?_
    refine gj_callVRi (pc := 38) (As := [.int nd]) (rest := []) (v := bI (rCor S n nd)) cx hK (c_M_correct l D cI cJ am n f z S nd (by omega) (hok)) (cwV 1 cx.2.2.2.2 (good_V wm_380 wm_378 wm_379 wm_556 wm_5) rfl rfl rfl (by decide +kernel) ⟨Nat.le_of_ble_eq_true rfl, Nat.le_of_ble_eq_true rfl⟩) gj_wP 0 2 rfl rfl rfl rfl rfl (Nat.le_of_ble_eq_true rfl) d_M_corrupt_38 ⟨Nat.zero_le _, Nat.zero_le _⟩ ?_
    refine gj_if_eqB (pc := 41) cx d_M_corrupt_41 (tgt := 52) rfl (fun hb2 => ?_) (fun hb2 => ?_)
    · refine gj_iconst (pc := 52) cx d_M_corrupt_52 (v := nI 0) (by decide) ?_
      exact gj_zretW (pc := 53) cx hr hlk d_M_corrupt_53 rfl (by rw [rCorrupt, if_neg (fun z => by rw [hb2] at z; cases z.1)] <;> rfl) (by rw [rCorrupt, if_neg (fun z => by rw [hb2] at z; cases z.1)] <;> rfl)
    · refine gj_iload_n (pc := 44) cx d_M_corrupt_44 rfl (x := nI (cntB (fun y => decide (rSt S y = 2)) n)) rfl ?_
      refine gj_aload_n (pc := 45) cx d_M_corrupt_45 rfl (x := am 0) rfl ?_
      refine gj_get (pc := 46) (ci := 2) (C := R_M) (T := T_M) (N := 15) (v := .int (nI f)) cx hK gj_wP in_M d_M_corrupt_46 0 rfl rfl 1 (by decide) (in_WT wm_342) rfl ?_
      refine gj_icmp_neN (pc := 49) cx d_M_corrupt_49 (tgt := 54) rfl (by omega) (by omega) (fun hb3 => ?_) (fun hb3 => ?_)
      · obtain ⟨x, hx, rfl, hxc⟩ := rCor_of hn hb2
        refine gj_aload_n (pc := 54) cx d_M_corrupt_54 rfl (x := am 0) rfl ?_
        refine gj_get (pc := 55) (ci := 2) (C := R_M) (T := T_M) (N := 15) (v := .ref (am 1)) cx hK gj_wP in_M d_M_corrupt_55 0 rfl rfl 3 (by decide) (in_WT wm_344) rfl ?_
        refine gj_iload_n (pc := 58) cx d_M_corrupt_58 rfl (x := nI x) rfl ?_
        refine gj_iconst (pc := 59) cx d_M_corrupt_59 (v := nI 2) (by decide) ?_
        refine gj_iastN (pc := 60) (i := x) (f := rSt S) (x := 2) (ws' := rW cI cJ am n f z (va_up (rSt S) x 2, rFu S, rSu S, rOw S, rEc S, rRe S, rAp S, rFr S, rMa S, rHe S, rHm S, rAc S)) cx hK d_M_corrupt_60 1 0 rfl rfl (by omega) (by decide) rfl ?_
        refine gj_iconst (pc := 61) cx d_M_corrupt_61 (v := nI 1) (by decide) ?_
        exact gj_zretW (pc := 62) cx hr hlk d_M_corrupt_62 rfl (by rw [rCorrupt, if_pos ⟨hb2, hb3⟩, xN_nI (by omega)] <;> rfl) (by rw [rCorrupt, if_pos ⟨hb2, hb3⟩, xN_nI (by omega)] <;> rfl)
      · refine gj_iconst (pc := 52) cx d_M_corrupt_52 (v := nI 0) (by decide) ?_
        exact gj_zretW (pc := 53) cx hr hlk d_M_corrupt_53 rfl (by rw [rCorrupt, if_neg (fun z => z.2 hb3)] <;> rfl) (by rw [rCorrupt, if_neg (fun z => z.2 hb3)] <;> rfl)
  · refine gj_iload_n (pc := 12) cx d_M_corrupt_12 rfl (x := nI (cntB (fun y => decide (rSt S y = 2)) i)) rfl ?_
    refine gj_aload_n (pc := 13) cx d_M_corrupt_13 rfl (x := am 0) rfl ?_
    refine gj_get (pc := 14) (ci := 2) (C := R_M) (T := T_M) (N := 15) (v := .ref (am 1)) cx hK gj_wP in_M d_M_corrupt_14 0 rfl rfl 3 (by decide) (in_WT wm_344) rfl ?_
    refine gj_iload_n (pc := 17) cx d_M_corrupt_17 rfl (x := nI i) rfl ?_
    refine gj_ialdN (pc := 18) (i := i) (f := rSt S) cx hK gj_wP d_M_corrupt_18 1 0 rfl rfl (by omega) (by decide) ?_
    have hv4 := hok.1 i
    refine gj_iconst (pc := 19) cx d_M_corrupt_19 (v := nI 2) (by decide) ?_
    refine gj_icmp_neN (pc := 20) cx d_M_corrupt_20 (tgt := 27) rfl (by omega) (by omega) (fun hb5 => ?_) (fun hb5 => ?_)
    · refine gj_iconst (pc := 27) cx d_M_corrupt_27 (v := nI 0) (by decide) ?_
      refine gj_iaddN (pc := 28) cx d_M_corrupt_28 ?_
      refine gj_istore_n (pc := 29) cx d_M_corrupt_29 rfl (lo' := [(2, .int (nI ((cntB (fun y => decide (rSt S y = 2)) i) + 0))), (0, .ref (am 0)), (1, .int nd), (3, .int (nI i))]) (by decide) rfl ?_
      refine gj_iincN (pc := 30) cx d_M_corrupt_30 (k := 3) (d := 1) (lo' := [(3, .int (nI (i + 1))), (2, .int (nI ((cntB (fun y => decide (rSt S y = 2)) i) + 0))), (0, .ref (am 0)), (1, .int nd)]) rfl (by decide) (by decide) rfl ?_
      refine gj_goto (pc := 33) cx d_M_corrupt_33 (tgt := 4) rfl ?_
      refine gj_pick (lo' := [(0, .ref (am 0)), (1, .int nd), (2, .int (nI ((cntB (fun y => decide (rSt S y = 2)) i) + 0))), (3, .int (nI (i + 1)))]) [2, 3, 1, 0] rfl ?_
      exact gj_eq rfl (by simp [cntB, hb1, hb5]) rfl (rfl) (ihi (by omega))
    · refine gj_iconst (pc := 23) cx d_M_corrupt_23 (v := nI 1) (by decide) ?_
      refine gj_goto (pc := 24) cx d_M_corrupt_24 (tgt := 28) rfl ?_
      refine gj_iaddN (pc := 28) cx d_M_corrupt_28 ?_
      refine gj_istore_n (pc := 29) cx d_M_corrupt_29 rfl (lo' := [(2, .int (nI ((cntB (fun y => decide (rSt S y = 2)) i) + 1))), (0, .ref (am 0)), (1, .int nd), (3, .int (nI i))]) (by decide) rfl ?_
      refine gj_iincN (pc := 30) cx d_M_corrupt_30 (k := 3) (d := 1) (lo' := [(3, .int (nI (i + 1))), (2, .int (nI ((cntB (fun y => decide (rSt S y = 2)) i) + 1))), (0, .ref (am 0)), (1, .int nd)]) rfl (by decide) (by decide) rfl ?_
      refine gj_goto (pc := 33) cx d_M_corrupt_33 (tgt := 4) rfl ?_
      refine gj_pick (lo' := [(0, .ref (am 0)), (1, .int nd), (2, .int (nI ((cntB (fun y => decide (rSt S y = 2)) i) + 1))), (3, .int (nI (i + 1)))]) [2, 3, 1, 0] rfl ?_
      exact gj_eq rfl (by simp [cntB, hb1, hb5]) rfl (rfl) (ihi (by omega))

set_option maxRecDepth 100000 in
set_option maxHeartbeats 4000000 in
theorem c_M_mark (l : Launch) (D : va_G) (cI cJ : ClassId) (am : Nat → Nat) (n f : Nat) (z : Int64) (S : RS) (nd : Int32) (hn : n ≤ 7) (hok : rOk S) (sz : Nat) : MWi l y_M_mark (wsM y_M_mark b_M_mark 4 (some .int)) { frames := 2, cells := 0, slots := 0, locals := 46 } D vwK (tyl cI cJ) (rW cI cJ am n f z S) (rW cI cJ am n f z ((rMark S n nd).2)) sz [.ref (am 0), .int nd] ((rMark S n nd).1) := by
  refine gj_enterW (own := R_M) (by decide) rfl (Nat.le_of_ble_eq_true rfl) rfl rfl (fun p e s m below meth c cx hr hlk hK hsz => ?_)
  have hA : ∀ q, s.heap.size ≤ q → va_A (rW cI cJ am n f z S) sz q := fun q h => Or.inr (hsz ▸ h)
  refine gj_aload_n (pc := 0) cx d_M_mark_0 rfl (x := am 0) rfl ?_
  refine gj_iload_n (pc := 1) cx d_M_mark_1 rfl (x := nd) rfl ?_
  refine gj_callVRi (pc := 2) (As := [.int nd]) (rest := []) (v := bI (rUp S n nd)) cx hK (c_M_up l D cI cJ am n f z S nd (by omega) (hok)) (cwV 1 cx.2.2.2.2 (good_V wm_402 wm_400 wm_401 wm_559 wm_5) rfl rfl rfl (by decide +kernel) ⟨Nat.le_of_ble_eq_true rfl, Nat.le_of_ble_eq_true rfl⟩) gj_wP 0 2 rfl rfl rfl rfl rfl (Nat.le_of_ble_eq_true rfl) d_M_mark_2 ⟨Nat.zero_le _, Nat.zero_le _⟩ ?_
  refine gj_if_neB (pc := 5) cx d_M_mark_5 (tgt := 10) rfl (fun hb1 => ?_) (fun hb1 => ?_)
  · obtain ⟨x, hx, rfl, hxu⟩ := rUp_of hn hb1
    refine gj_aload_n (pc := 10) cx d_M_mark_10 rfl (x := am 0) rfl ?_
    refine gj_iload_n (pc := 11) cx d_M_mark_11 rfl (x := nI x) rfl ?_
    refine gj_callVWi (pc := 12) (As := [.int (nI x)]) (rest := []) (v := bI (rBn S x)) (ws' := rW cI cJ am n f z (rBurn S x)) cx hK hA (fun sz => c_M_burns l D cI cJ am n f z S x (by omega) (hok) sz) (cwV 1 cx.2.2.2.2 (good_V wm_446 wm_444 wm_445 wm_567 wm_5) rfl rfl rfl (by decide +kernel) ⟨Nat.le_of_ble_eq_true rfl, Nat.le_of_ble_eq_true rfl⟩) gj_J.self 0 2 rfl rfl rfl rfl rfl (Nat.le_of_ble_eq_true rfl) d_M_mark_12 ⟨Nat.zero_le _, Nat.zero_le _⟩ ?_
    refine gj_if_eqB (pc := 15) cx d_M_mark_15 (tgt := 21) rfl (fun hb2 => ?_) (fun hb2 => ?_)
    · refine gj_eq (w' := rW cI cJ am n f z (rSt S, va_up (rFu S) x (rFu S x - 1), rSu S, rOw S, rEc S, rRe S, rAp S, rFr S, rMa S, rHe S, rHm S, rAc S)) rfl rfl rfl (by rw [rBurn_t hb2]) ?_
      refine gj_iconst (pc := 21) cx d_M_mark_21 (v := nI 0) (by decide) ?_
      refine gj_istore_n (pc := 22) cx d_M_mark_22 rfl (lo' := [(2, .int (nI 0)), (0, .ref (am 0)), (1, .int (nI x))]) (by decide) rfl ?_
      refine gj_iconst (pc := 23) cx d_M_mark_23 (v := nI 0) (by decide) ?_
      refine gj_istore_n (pc := 24) cx d_M_mark_24 rfl (lo' := [(3, .int (nI 0)), (2, .int (nI 0)), (0, .ref (am 0)), (1, .int (nI x))]) (by decide) rfl ?_
      refine gj_pick (lo' := [(0, .ref (am 0)), (1, .int (nI x)), (2, .int (nI 0)), (3, .int (nI 0))]) [2, 3, 1, 0] rfl ?_
      refine gj_forG (G := Gj p l e _ s m _ below meth c _ _ _ _ _) n 25 (fun i => [(0, .ref (am 0)), (1, .int (nI x)), (2, .int (nI (digs (rCnt S x) i))), (3, .int (nI i))]) (fun i => rW cI cJ am n f z (rSt S, va_up (rFu S) x (rFu S x - 1), rSu S, rOw S, rEc S, rRe S, rAp S, rFr S, rMa S, rHe S, rHm S, rAc S)) (fun i hi ihi => ?_) 0 (by omega)
      refine gj_iload_n (pc := 25) cx d_M_mark_25 rfl (x := nI i) rfl ?_
      refine gj_aload_n (pc := 26) cx d_M_mark_26 rfl (x := am 0) rfl ?_
      refine gj_get (pc := 27) (ci := 2) (C := R_M) (T := T_M) (N := 15) (v := .int (nI n)) cx hK gj_wP in_M d_M_mark_27 0 rfl rfl 0 (by decide) (in_WT wm_341) rfl ?_
      refine gj_icmp_geN (pc := 30) cx d_M_mark_30 (tgt := 52) rfl (by omega) (by omega) (fun hb3 => ?_) (fun hb3 => ?_)
      · have hin : n = i := by omega
        subst hin
        have hml := rMk_lt S hn x
        refine gj_aload_n (pc := 52) cx d_M_mark_52 rfl (x := am 0) rfl ?_
        refine gj_get (pc := 53) (ci := 2) (C := R_M) (T := T_M) (N := 15) (v := .ref (am 9)) cx hK gj_wP in_M d_M_mark_53 0 rfl rfl 11 (by decide) (in_WT wm_352) rfl ?_
        refine gj_iload_n (pc := 56) cx d_M_mark_56 rfl (x := nI x) rfl ?_
        refine gj_iload_n (pc := 57) cx d_M_mark_57 rfl (x := nI (rMk S n x)) rfl ?_
        refine gj_iconst (pc := 58) cx d_M_mark_58 (v := nI 1) (by decide) ?_
        refine gj_iaddN (pc := 59) cx d_M_mark_59 ?_
        refine gj_iastN (pc := 60) (i := x) (f := rMa S) (x := (rMk S n x) + 1) (ws' := rW cI cJ am n f z (rSt S, va_up (rFu S) x (rFu S x - 1), rSu S, rOw S, rEc S, rRe S, rAp S, rFr S, va_up (rMa S) x ((rMk S n x) + 1), rHe S, rHm S, rAc S)) cx hK d_M_mark_60 9 0 rfl rfl (by omega) (by decide) rfl ?_
        refine gj_iload_n (pc := 61) cx d_M_mark_61 rfl (x := nI (rMk S n x)) rfl ?_
        exact gj_iretW (pc := 62) cx hr hlk d_M_mark_62 (by rw [rMark, if_pos hb1, xN_nI (by omega), if_neg (rBn_f hb2)]) (by rw [rMark, if_pos hb1, xN_nI (by omega), if_neg (rBn_f hb2), rUpMa, rBurn_t hb2])
      · refine gj_iload_n (pc := 33) cx d_M_mark_33 rfl (x := nI (digs (rCnt S x) i)) rfl ?_
        refine gj_aload_n (pc := 34) cx d_M_mark_34 rfl (x := am 0) rfl ?_
        refine gj_iload_n (pc := 35) cx d_M_mark_35 rfl (x := nI x) rfl ?_
        refine gj_iload_n (pc := 36) cx d_M_mark_36 rfl (x := nI i) rfl ?_
        refine gj_callVRi (pc := 37) (As := [.int (nI x), .int (nI i)]) (rest := [.int (nI (digs (rCnt S x) i))]) (v := nI (rCnt (rSt S, va_up (rFu S) x (rFu S x - 1), rSu S, rOw S, rEc S, rRe S, rAp S, rFr S, rMa S, rHe S, rHm S, rAc S) x i)) cx hK (c_M_count l D cI cJ am n f z (rSt S, va_up (rFu S) x (rFu S x - 1), rSu S, rOw S, rEc S, rRe S, rAp S, rFr S, rMa S, rHe S, rHm S, rAc S) x i (by omega) (by omega)) (cwV 2 cx.2.2.2.2 (good_V wm_455 wm_453 wm_454 wm_570 wm_5) rfl rfl rfl (by decide +kernel) ⟨Nat.le_of_ble_eq_true rfl, Nat.le_of_ble_eq_true rfl⟩) gj_wP 0 2 rfl rfl rfl rfl rfl (Nat.le_of_ble_eq_true rfl) d_M_mark_37 ⟨Nat.zero_le _, Nat.zero_le _⟩ ?_
        have hv4 := rCnt_lt (rSt S, va_up (rFu S) x (rFu S x - 1), rSu S, rOw S, rEc S, rRe S, rAp S, rFr S, rMa S, rHe S, rHm S, rAc S) x i
        refine gj_toi (y := nI (rCnt S x i)) (rfl) ?_
        refine gj_iconst (pc := 40) cx d_M_mark_40 (v := nI 3) (by decide) ?_
        refine gj_iload_n (pc := 41) cx d_M_mark_41 rfl (x := nI i) rfl ?_
        refine gj_imulN (pc := 42) cx d_M_mark_42 ?_
        refine gj_ishlN (pc := 43) cx d_M_mark_43 (by omega) (pow_3 (by omega) (rCnt_le S x i)) ?_
        refine gj_iaddN (pc := 44) cx d_M_mark_44 ?_
        refine gj_istore_n (pc := 45) cx d_M_mark_45 rfl (lo' := [(2, .int (nI ((digs (rCnt S x) i) + ((rCnt S x i) * 2 ^ (3 * i))))), (0, .ref (am 0)), (1, .int (nI x)), (3, .int (nI i))]) (by decide) rfl ?_
        refine gj_iincN (pc := 46) cx d_M_mark_46 (k := 3) (d := 1) (lo' := [(3, .int (nI (i + 1))), (2, .int (nI ((digs (rCnt S x) i) + ((rCnt S x i) * 2 ^ (3 * i))))), (0, .ref (am 0)), (1, .int (nI x))]) rfl (by decide) (by decide) rfl ?_
        refine gj_goto (pc := 49) cx d_M_mark_49 (tgt := 25) rfl ?_
        refine gj_pick (lo' := [(0, .ref (am 0)), (1, .int (nI x)), (2, .int (nI ((digs (rCnt S x) i) + ((rCnt S x i) * 2 ^ (3 * i))))), (3, .int (nI (i + 1)))]) [2, 3, 1, 0] rfl ?_
        exact gj_eq rfl (rfl) rfl (rfl) (ihi (by omega))
    · refine gj_bipush (pc := 18) cx d_M_mark_18 (v := (-7)) (by decide) ?_
      exact gj_iretW (pc := 20) cx hr hlk d_M_mark_20 (by rw [rMark, if_pos hb1, xN_nI (by omega), if_pos (rBn_t hb2)]) (by rw [rMark, if_pos hb1, xN_nI (by omega), if_pos (rBn_t hb2), rBurn_1 (rBn_t hb2)])
  · refine gj_iconst (pc := 8) cx d_M_mark_8 (v := (-1)) (by decide) ?_
    exact gj_iretW (pc := 9) cx hr hlk d_M_mark_9 (by rw [rMark, if_neg (by rw [hb1]; decide)] <;> rfl) (by rw [rMark, if_neg (by rw [hb1]; decide)] <;> rfl)

set_option maxRecDepth 100000 in
set_option maxHeartbeats 4000000 in
theorem c_M_sent (l : Launch) (D : va_G) (cI cJ : ClassId) (am : Nat → Nat) (n f : Nat) (z : Int64) (S : RS) (nd : Int32) (kd : Int32) (bd : Int32) (qd : Int32) (hn : n ≤ 7) (hok : rOk S) : MRl l y_M_sent (wsM y_M_sent b_M_sent 5 (some .long)) { frames := 2, cells := 0, slots := 0, locals := 48 } D vwK (tyl cI cJ) (rW cI cJ am n f z S) [.ref (am 0), .int nd, .int kd, .int bd, .int qd] (rSent S n nd kd bd qd) := by
  refine gj_enterR (own := R_M) (by decide) rfl (Nat.le_of_ble_eq_true rfl) rfl rfl (fun p e s m below meth c cx hr hlk hK => ?_)
  refine gj_aload_n (pc := 0) cx d_M_sent_0 rfl (x := am 0) rfl ?_
  refine gj_iload_n (pc := 1) cx d_M_sent_1 rfl (x := nd) rfl ?_
  refine gj_callVRi (pc := 2) (As := [.int nd]) (rest := []) (v := bI (rCor S n nd)) cx hK (c_M_correct l D cI cJ am n f z S nd (by omega) (hok)) (cwV 1 cx.2.2.2.2 (good_V wm_380 wm_378 wm_379 wm_556 wm_5) rfl rfl rfl (by decide +kernel) ⟨Nat.le_of_ble_eq_true rfl, Nat.le_of_ble_eq_true rfl⟩) gj_rP 0 2 rfl rfl rfl rfl rfl (Nat.le_of_ble_eq_true rfl) d_M_sent_2 ⟨Nat.zero_le _, Nat.zero_le _⟩ ?_
  refine gj_if_eqB (pc := 5) cx d_M_sent_5 (tgt := 20) rfl (fun hb1 => ?_) (fun hb1 => ?_)
  · refine gj_ldc2 (pc := 20) cx d_M_sent_20 (v := (-1)) (in_WT wm_393) ?_
    exact gj_lretR (pc := 23) cx hr hlk d_M_sent_23 (by rw [rSent, if_neg (by rw [hb1]; decide)])
  · obtain ⟨x, hx, rfl, hxc⟩ := rCor_of hn hb1
    refine gj_aload_n (pc := 8) cx d_M_sent_8 rfl (x := am 0) rfl ?_
    refine gj_iload_n (pc := 9) cx d_M_sent_9 rfl (x := nI x) rfl ?_
    refine gj_iload_n (pc := 10) cx d_M_sent_10 rfl (x := kd) rfl ?_
    refine gj_iload_n (pc := 11) cx d_M_sent_11 rfl (x := bd) rfl ?_
    refine gj_iload (pc := 12) cx d_M_sent_12 (x := qd) rfl ?_
    refine gj_callVRl (pc := 14) (As := [.int (nI x), .int kd, .int bd, .int qd]) (rest := []) (v := rSaidC S n x kd bd qd) cx hK (c_M_said l D cI cJ am n f z S x kd bd qd (by omega) (hok) (by omega)) (cwV 4 cx.2.2.2.2 (good_V wm_392 wm_390 wm_391 wm_557 wm_5) rfl rfl rfl (by decide +kernel) ⟨Nat.le_of_ble_eq_true rfl, Nat.le_of_ble_eq_true rfl⟩) gj_rP 0 2 rfl rfl rfl rfl rfl (Nat.le_of_ble_eq_true rfl) d_M_sent_14 ⟨Nat.zero_le _, Nat.zero_le _⟩ ?_
    refine gj_goto (pc := 17) cx d_M_sent_17 (tgt := 23) rfl ?_
    exact gj_lretR (pc := 23) cx hr hlk d_M_sent_23 (by rw [rSent, if_pos hb1, xN_nI (by omega)])

set_option maxRecDepth 100000 in
set_option maxHeartbeats 4000000 in
theorem c_M_accepted (l : Launch) (D : va_G) (cI cJ : ClassId) (am : Nat → Nat) (n f : Nat) (z : Int64) (S : RS) (nd : Int32) (bd : Int32) (qd : Int32) (hn : n ≤ 7) (hok : rOk S) : MRl l y_M_accepted (wsM y_M_accepted b_M_accepted 4 (some .long)) { frames := 1, cells := 0, slots := 0, locals := 22 } D vwK (tyl cI cJ) (rW cI cJ am n f z S) [.ref (am 0), .int nd, .int bd, .int qd] (rAcd S n nd bd qd) := by
  refine gj_enterR (own := R_M) (by decide) rfl (Nat.le_of_ble_eq_true rfl) rfl rfl (fun p e s m below meth c cx hr hlk hK => ?_)
  refine gj_aload_n (pc := 0) cx d_M_accepted_0 rfl (x := am 0) rfl ?_
  refine gj_iload_n (pc := 1) cx d_M_accepted_1 rfl (x := nd) rfl ?_
  refine gj_callVRi (pc := 2) (As := [.int nd]) (rest := []) (v := bI (rCor S n nd)) cx hK (c_M_correct l D cI cJ am n f z S nd (by omega) (hok)) (cwV 1 cx.2.2.2.2 (good_V wm_380 wm_378 wm_379 wm_556 wm_5) rfl rfl rfl (by decide +kernel) ⟨Nat.le_of_ble_eq_true rfl, Nat.le_of_ble_eq_true rfl⟩) gj_rP 0 2 rfl rfl rfl rfl rfl (Nat.le_of_ble_eq_true rfl) d_M_accepted_2 ⟨Nat.zero_le _, Nat.zero_le _⟩ ?_
  refine gj_if_eqB (pc := 5) cx d_M_accepted_5 (tgt := 33) rfl (fun hb1 => ?_) (fun hb1 => ?_)
  · refine gj_ldc2 (pc := 33) cx d_M_accepted_33 (v := (-1)) (in_WT wm_393) ?_
    exact gj_lretR (pc := 36) cx hr hlk d_M_accepted_36 (by rw [rAcd, if_neg (fun z => by rw [hb1] at z; cases z.1)])
  · refine gj_aload_n (pc := 8) cx d_M_accepted_8 rfl (x := am 0) rfl ?_
    refine gj_iload_n (pc := 9) cx d_M_accepted_9 rfl (x := bd) rfl ?_
    refine gj_iload_n (pc := 10) cx d_M_accepted_10 rfl (x := qd) rfl ?_
    refine gj_callVRi (pc := 11) (As := [.int bd, .int qd]) (rest := []) (v := bI (isIn n bd qd)) cx hK (c_M_isInstance l D cI cJ am n f z S bd qd ) (cwV 2 cx.2.2.2.2 (good_V wm_396 wm_394 wm_395 wm_558 wm_5) rfl rfl rfl (by decide +kernel) ⟨Nat.le_of_ble_eq_true rfl, Nat.le_of_ble_eq_true rfl⟩) gj_rP 0 2 rfl rfl rfl rfl rfl (Nat.le_of_ble_eq_true rfl) d_M_accepted_11 ⟨Nat.zero_le _, Nat.zero_le _⟩ ?_
    refine gj_if_eqB (pc := 14) cx d_M_accepted_14 (tgt := 33) rfl (fun hb2 => ?_) (fun hb2 => ?_)
    · refine gj_ldc2 (pc := 33) cx d_M_accepted_33 (v := (-1)) (in_WT wm_393) ?_
      exact gj_lretR (pc := 36) cx hr hlk d_M_accepted_36 (by rw [rAcd, if_neg (fun z => by rw [hb2] at z; cases z.2.1)])
    · obtain ⟨x, hx, rfl, hxc⟩ := rCor_of hn hb1
      obtain ⟨b, q, hb, hq1, hq5, rfl, rfl⟩ := isIn_of hn hb2
      refine gj_aload_n (pc := 17) cx d_M_accepted_17 rfl (x := am 0) rfl ?_
      refine gj_get (pc := 18) (ci := 2) (C := R_M) (T := T_M) (N := 15) (v := .ref (am 12)) cx hK gj_rP in_M d_M_accepted_18 0 rfl rfl 14 (by decide) (in_WT wm_355) rfl ?_
      refine gj_iload_n (pc := 21) cx d_M_accepted_21 rfl (x := nI x) rfl ?_
      refine gj_iload_n (pc := 22) cx d_M_accepted_22 rfl (x := nI b) rfl ?_
      refine gj_iload_n (pc := 23) cx d_M_accepted_23 rfl (x := nI q) rfl ?_
      refine gj_callSRi (pc := 24) (As := [.int (nI x), .int (nI b), .int (nI q)]) (rest := [.ref (am 12)]) (v := nI ((x * 7 + b) * 5 + q - 1)) cx hK (c_M_at l D (tyl cI cJ) x b q (by omega)) (va_cwS 3 cx.2.2.2.2 (good_S wm_399 wm_397 wm_398 wm_5) rfl rfl rfl (by decide +kernel) ⟨Nat.le_of_ble_eq_true rfl, Nat.le_of_ble_eq_true rfl⟩) (fun _ _ _ => gj_P0) rfl rfl (Nat.le_of_ble_eq_true rfl) d_M_accepted_24 ⟨Nat.zero_le _, Nat.zero_le _⟩ ?_
      refine gj_lald (pc := 27) (i := (x * 7 + b) * 5 + q - 1) (f := rAc S) cx hK gj_rP d_M_accepted_27 12 1 rfl rfl (by omega) (by decide) ?_
      refine gj_lconst (pc := 28) cx d_M_accepted_28 (v := 0) (by decide) ?_
      refine gj_lcmp_ne (pc := 29) cx d_M_accepted_29 d_M_accepted_30 (tgt := 37) rfl (fun hb3 => ?_) (fun hb3 => ?_)
      · refine gj_aload_n (pc := 37) cx d_M_accepted_37 rfl (x := am 0) rfl ?_
        refine gj_get (pc := 38) (ci := 2) (C := R_M) (T := T_M) (N := 15) (v := .ref (am 12)) cx hK gj_rP in_M d_M_accepted_38 0 rfl rfl 14 (by decide) (in_WT wm_355) rfl ?_
        refine gj_iload_n (pc := 41) cx d_M_accepted_41 rfl (x := nI x) rfl ?_
        refine gj_iload_n (pc := 42) cx d_M_accepted_42 rfl (x := nI b) rfl ?_
        refine gj_iload_n (pc := 43) cx d_M_accepted_43 rfl (x := nI q) rfl ?_
        refine gj_callSRi (pc := 44) (As := [.int (nI x), .int (nI b), .int (nI q)]) (rest := [.ref (am 12)]) (v := nI ((x * 7 + b) * 5 + q - 1)) cx hK (c_M_at l D (tyl cI cJ) x b q (by omega)) (va_cwS 3 cx.2.2.2.2 (good_S wm_399 wm_397 wm_398 wm_5) rfl rfl rfl (by decide +kernel) ⟨Nat.le_of_ble_eq_true rfl, Nat.le_of_ble_eq_true rfl⟩) (fun _ _ _ => gj_P0) rfl rfl (Nat.le_of_ble_eq_true rfl) d_M_accepted_44 ⟨Nat.zero_le _, Nat.zero_le _⟩ ?_
        refine gj_lald (pc := 47) (i := (x * 7 + b) * 5 + q - 1) (f := rAc S) cx hK gj_rP d_M_accepted_47 12 1 rfl rfl (by omega) (by decide) ?_
        exact gj_lretR (pc := 48) cx hr hlk d_M_accepted_48 (by rw [rAcd, xN_nI (show x < 2147483648 by omega), xN_nI (show b < 2147483648 by omega), xN_nI (show q < 2147483648 by omega), if_pos ⟨hb1, hb2, hb3⟩])
      · refine gj_ldc2 (pc := 33) cx d_M_accepted_33 (v := (-1)) (in_WT wm_393) ?_
        exact gj_lretR (pc := 36) cx hr hlk d_M_accepted_36 (by rw [rAcd, xN_nI (show x < 2147483648 by omega), xN_nI (show b < 2147483648 by omega), xN_nI (show q < 2147483648 by omega), if_neg (fun z => z.2.2 hb3)])

set_option maxRecDepth 100000 in
set_option maxHeartbeats 4000000 in
theorem c_M_applied (l : Launch) (D : va_G) (cI cJ : ClassId) (am : Nat → Nat) (n f : Nat) (z : Int64) (S : RS) (nd : Int32) (bd : Int32) (hn : n ≤ 7) (hok : rOk S) : MRi l y_M_applied (wsM y_M_applied b_M_applied 3 (some .int)) { frames := 2, cells := 0, slots := 0, locals := 46 } D vwK (tyl cI cJ) (rW cI cJ am n f z S) [.ref (am 0), .int nd, .int bd] (rApd S n nd bd) := by
  refine gj_enterR (own := R_M) (by decide) rfl (Nat.le_of_ble_eq_true rfl) rfl rfl (fun p e s m below meth c cx hr hlk hK => ?_)
  refine gj_aload_n (pc := 0) cx d_M_applied_0 rfl (x := am 0) rfl ?_
  refine gj_iload_n (pc := 1) cx d_M_applied_1 rfl (x := nd) rfl ?_
  refine gj_callVRi (pc := 2) (As := [.int nd]) (rest := []) (v := bI (rCor S n nd)) cx hK (c_M_correct l D cI cJ am n f z S nd (by omega) (hok)) (cwV 1 cx.2.2.2.2 (good_V wm_380 wm_378 wm_379 wm_556 wm_5) rfl rfl rfl (by decide +kernel) ⟨Nat.le_of_ble_eq_true rfl, Nat.le_of_ble_eq_true rfl⟩) gj_rP 0 2 rfl rfl rfl rfl rfl (Nat.le_of_ble_eq_true rfl) d_M_applied_2 ⟨Nat.zero_le _, Nat.zero_le _⟩ ?_
  refine gj_if_eqB (pc := 5) cx d_M_applied_5 (tgt := 29) rfl (fun hb1 => ?_) (fun hb1 => ?_)
  · refine gj_iconst (pc := 29) cx d_M_applied_29 (v := (-1)) (by decide) ?_
    exact gj_iretR (pc := 30) cx hr hlk d_M_applied_30 (by rw [rApd, if_neg (fun z => by rw [hb1] at z; cases z.1)])
  · refine gj_iload_n (pc := 8) cx d_M_applied_8 rfl (x := bd) rfl ?_
    refine gj_if_lt (pc := 9) cx d_M_applied_9 (tgt := 29) rfl (fun hb2 => ?_) (fun hb2 => ?_)
    · refine gj_iconst (pc := 29) cx d_M_applied_29 (v := (-1)) (by decide) ?_
      exact gj_iretR (pc := 30) cx hr hlk d_M_applied_30 (by rw [rApd, if_neg (fun z => by rw [isN_f1 hb2] at z; cases z.2)])
    · refine gj_iload_n (pc := 12) cx d_M_applied_12 rfl (x := bd) rfl ?_
      refine gj_aload_n (pc := 13) cx d_M_applied_13 rfl (x := am 0) rfl ?_
      refine gj_get (pc := 14) (ci := 2) (C := R_M) (T := T_M) (N := 15) (v := .int (nI n)) cx hK gj_rP in_M d_M_applied_14 0 rfl rfl 0 (by decide) (in_WT wm_341) rfl ?_
      refine gj_icmp_ge (pc := 17) cx d_M_applied_17 (tgt := 29) rfl (fun hb3 => ?_) (fun hb3 => ?_)
      · refine gj_iconst (pc := 29) cx d_M_applied_29 (v := (-1)) (by decide) ?_
        exact gj_iretR (pc := 30) cx hr hlk d_M_applied_30 (by rw [rApd, if_neg (fun z => by rw [isN_f2 hb3] at z; cases z.2)])
      · obtain ⟨x, hx, rfl, hxc⟩ := rCor_of hn hb1
        have hbN := isN_t hb2 hb3
        obtain ⟨b, hb, rfl⟩ := isN_of hn hbN
        refine gj_aload_n (pc := 20) cx d_M_applied_20 rfl (x := am 0) rfl ?_
        refine gj_iload_n (pc := 21) cx d_M_applied_21 rfl (x := nI x) rfl ?_
        refine gj_iload_n (pc := 22) cx d_M_applied_22 rfl (x := nI b) rfl ?_
        refine gj_callVRi (pc := 23) (As := [.int (nI x), .int (nI b)]) (rest := []) (v := nI (rCnt S x b)) cx hK (c_M_count l D cI cJ am n f z S x b (by omega) (by omega)) (cwV 2 cx.2.2.2.2 (good_V wm_455 wm_453 wm_454 wm_570 wm_5) rfl rfl rfl (by decide +kernel) ⟨Nat.le_of_ble_eq_true rfl, Nat.le_of_ble_eq_true rfl⟩) gj_rP 0 2 rfl rfl rfl rfl rfl (Nat.le_of_ble_eq_true rfl) d_M_applied_23 ⟨Nat.zero_le _, Nat.zero_le _⟩ ?_
        have hv4 := rCnt_lt S x b
        refine gj_goto (pc := 26) cx d_M_applied_26 (tgt := 30) rfl ?_
        exact gj_iretR (pc := 30) cx hr hlk d_M_applied_30 (by rw [rApd, if_pos ⟨hb1, hbN⟩, xN_nI (show x < 2147483648 by omega), xN_nI (show b < 2147483648 by omega)])

set_option maxRecDepth 100000 in
set_option maxHeartbeats 4000000 in
theorem c_M_balance (l : Launch) (D : va_G) (cI cJ : ClassId) (am : Nat → Nat) (n f : Nat) (z : Int64) (S : RS) (nd : Int32) (bd : Int32) (hn : n ≤ 7) (hok : rOk S) : MRl l y_M_balance (wsM y_M_balance b_M_balance 3 (some .long)) { frames := 2, cells := 0, slots := 0, locals := 50 } D vwK (tyl cI cJ) (rW cI cJ am n f z S) [.ref (am 0), .int nd, .int bd] (rBal S n z nd bd) := by
  refine gj_enterR (own := R_M) (by decide) rfl (Nat.le_of_ble_eq_true rfl) rfl rfl (fun p e s m below meth c cx hr hlk hK => ?_)
  refine gj_aload_n (pc := 0) cx d_M_balance_0 rfl (x := am 0) rfl ?_
  refine gj_iload_n (pc := 1) cx d_M_balance_1 rfl (x := nd) rfl ?_
  refine gj_callVRi (pc := 2) (As := [.int nd]) (rest := []) (v := bI (rCor S n nd)) cx hK (c_M_correct l D cI cJ am n f z S nd (by omega) (hok)) (cwV 1 cx.2.2.2.2 (good_V wm_380 wm_378 wm_379 wm_556 wm_5) rfl rfl rfl (by decide +kernel) ⟨Nat.le_of_ble_eq_true rfl, Nat.le_of_ble_eq_true rfl⟩) gj_rP 0 2 rfl rfl rfl rfl rfl (Nat.le_of_ble_eq_true rfl) d_M_balance_2 ⟨Nat.zero_le _, Nat.zero_le _⟩ ?_
  refine gj_if_eqB (pc := 5) cx d_M_balance_5 (tgt := 29) rfl (fun hb1 => ?_) (fun hb1 => ?_)
  · refine gj_ldc2 (pc := 29) cx d_M_balance_29 (v := (-1)) (in_WT wm_393) ?_
    exact gj_lretR (pc := 32) cx hr hlk d_M_balance_32 (by rw [rBal, if_neg (fun z => by rw [hb1] at z; cases z.1)])
  · refine gj_iload_n (pc := 8) cx d_M_balance_8 rfl (x := bd) rfl ?_
    refine gj_if_lt (pc := 9) cx d_M_balance_9 (tgt := 29) rfl (fun hb2 => ?_) (fun hb2 => ?_)
    · refine gj_ldc2 (pc := 29) cx d_M_balance_29 (v := (-1)) (in_WT wm_393) ?_
      exact gj_lretR (pc := 32) cx hr hlk d_M_balance_32 (by rw [rBal, if_neg (fun z => by rw [isN_f1 hb2] at z; cases z.2)])
    · refine gj_iload_n (pc := 12) cx d_M_balance_12 rfl (x := bd) rfl ?_
      refine gj_aload_n (pc := 13) cx d_M_balance_13 rfl (x := am 0) rfl ?_
      refine gj_get (pc := 14) (ci := 2) (C := R_M) (T := T_M) (N := 15) (v := .int (nI n)) cx hK gj_rP in_M d_M_balance_14 0 rfl rfl 0 (by decide) (in_WT wm_341) rfl ?_
      refine gj_icmp_ge (pc := 17) cx d_M_balance_17 (tgt := 29) rfl (fun hb3 => ?_) (fun hb3 => ?_)
      · refine gj_ldc2 (pc := 29) cx d_M_balance_29 (v := (-1)) (in_WT wm_393) ?_
        exact gj_lretR (pc := 32) cx hr hlk d_M_balance_32 (by rw [rBal, if_neg (fun z => by rw [isN_f2 hb3] at z; cases z.2)])
      · obtain ⟨x, hx, rfl, hxc⟩ := rCor_of hn hb1
        have hbN := isN_t hb2 hb3
        obtain ⟨b, hb, rfl⟩ := isN_of hn hbN
        refine gj_aload_n (pc := 20) cx d_M_balance_20 rfl (x := am 0) rfl ?_
        refine gj_iload_n (pc := 21) cx d_M_balance_21 rfl (x := nI x) rfl ?_
        refine gj_iload_n (pc := 22) cx d_M_balance_22 rfl (x := nI b) rfl ?_
        refine gj_callVRl (pc := 23) (As := [.int (nI x), .int (nI b)]) (rest := []) (v := rWo (rAp S) x b z n) cx hK (c_M_worth l D cI cJ am n f z S x b (by omega) (by omega) (by omega)) (cwV 2 cx.2.2.2.2 (good_V wm_464 wm_462 wm_463 wm_573 wm_5) rfl rfl rfl (by decide +kernel) ⟨Nat.le_of_ble_eq_true rfl, Nat.le_of_ble_eq_true rfl⟩) gj_rP 0 2 rfl rfl rfl rfl rfl (Nat.le_of_ble_eq_true rfl) d_M_balance_23 ⟨Nat.zero_le _, Nat.zero_le _⟩ ?_
        refine gj_goto (pc := 26) cx d_M_balance_26 (tgt := 32) rfl ?_
        exact gj_lretR (pc := 32) cx hr hlk d_M_balance_32 (by rw [rBal, if_pos ⟨hb1, hbN⟩, xN_nI (show x < 2147483648 by omega), xN_nI (show b < 2147483648 by omega)])

set_option maxRecDepth 100000 in
set_option maxHeartbeats 4000000 in
theorem c_M_freed (l : Launch) (D : va_G) (cI cJ : ClassId) (am : Nat → Nat) (n f : Nat) (z : Int64) (S : RS) (nd : Int32) (bd : Int32) (hn : n ≤ 7) (hok : rOk S) : MRi l y_M_freed (wsM y_M_freed b_M_freed 3 (some .int)) { frames := 1, cells := 0, slots := 0, locals := 21 } D vwK (tyl cI cJ) (rW cI cJ am n f z S) [.ref (am 0), .int nd, .int bd] (rFrd S n nd bd) := by
  refine gj_enterR (own := R_M) (by decide) rfl (Nat.le_of_ble_eq_true rfl) rfl rfl (fun p e s m below meth c cx hr hlk hK => ?_)
  refine gj_aload_n (pc := 0) cx d_M_freed_0 rfl (x := am 0) rfl ?_
  refine gj_iload_n (pc := 1) cx d_M_freed_1 rfl (x := nd) rfl ?_
  refine gj_callVRi (pc := 2) (As := [.int nd]) (rest := []) (v := bI (rCor S n nd)) cx hK (c_M_correct l D cI cJ am n f z S nd (by omega) (hok)) (cwV 1 cx.2.2.2.2 (good_V wm_380 wm_378 wm_379 wm_556 wm_5) rfl rfl rfl (by decide +kernel) ⟨Nat.le_of_ble_eq_true rfl, Nat.le_of_ble_eq_true rfl⟩) gj_rP 0 2 rfl rfl rfl rfl rfl (Nat.le_of_ble_eq_true rfl) d_M_freed_2 ⟨Nat.zero_le _, Nat.zero_le _⟩ ?_
  refine gj_if_eqB (pc := 5) cx d_M_freed_5 (tgt := 34) rfl (fun hb1 => ?_) (fun hb1 => ?_)
  · refine gj_iconst (pc := 34) cx d_M_freed_34 (v := (-1)) (by decide) ?_
    exact gj_iretR (pc := 35) cx hr hlk d_M_freed_35 (by rw [rFrd, if_neg (fun z => by rw [hb1] at z; cases z.1)])
  · refine gj_iload_n (pc := 8) cx d_M_freed_8 rfl (x := bd) rfl ?_
    refine gj_if_lt (pc := 9) cx d_M_freed_9 (tgt := 34) rfl (fun hb2 => ?_) (fun hb2 => ?_)
    · refine gj_iconst (pc := 34) cx d_M_freed_34 (v := (-1)) (by decide) ?_
      exact gj_iretR (pc := 35) cx hr hlk d_M_freed_35 (by rw [rFrd, if_neg (fun z => by rw [isN_f1 hb2] at z; cases z.2)])
    · refine gj_iload_n (pc := 12) cx d_M_freed_12 rfl (x := bd) rfl ?_
      refine gj_aload_n (pc := 13) cx d_M_freed_13 rfl (x := am 0) rfl ?_
      refine gj_get (pc := 14) (ci := 2) (C := R_M) (T := T_M) (N := 15) (v := .int (nI n)) cx hK gj_rP in_M d_M_freed_14 0 rfl rfl 0 (by decide) (in_WT wm_341) rfl ?_
      refine gj_icmp_ge (pc := 17) cx d_M_freed_17 (tgt := 34) rfl (fun hb3 => ?_) (fun hb3 => ?_)
      · refine gj_iconst (pc := 34) cx d_M_freed_34 (v := (-1)) (by decide) ?_
        exact gj_iretR (pc := 35) cx hr hlk d_M_freed_35 (by rw [rFrd, if_neg (fun z => by rw [isN_f2 hb3] at z; cases z.2)])
      · obtain ⟨x, hx, rfl, hxc⟩ := rCor_of hn hb1
        have hbN := isN_t hb2 hb3
        obtain ⟨b, hb, rfl⟩ := isN_of hn hbN
        refine gj_aload_n (pc := 20) cx d_M_freed_20 rfl (x := am 0) rfl ?_
        refine gj_get (pc := 21) (ci := 2) (C := R_M) (T := T_M) (N := 15) (v := .ref (am 8)) cx hK gj_rP in_M d_M_freed_21 0 rfl rfl 10 (by decide) (in_WT wm_351) rfl ?_
        refine gj_bipush (pc := 24) cx d_M_freed_24 (v := nI 7) (by decide) ?_
        refine gj_iload_n (pc := 26) cx d_M_freed_26 rfl (x := nI x) rfl ?_
        refine gj_imulN (pc := 27) cx d_M_freed_27 ?_
        refine gj_iload_n (pc := 28) cx d_M_freed_28 rfl (x := nI b) rfl ?_
        refine gj_iaddN (pc := 29) cx d_M_freed_29 ?_
        refine gj_ialdN (pc := 30) (i := (7 * x) + b) (f := rFr S) cx hK gj_rP d_M_freed_30 8 0 rfl rfl (by omega) (by decide) ?_
        have hv4 := hok.2.2.2.1 ((7 * x) + b)
        refine gj_goto (pc := 31) cx d_M_freed_31 (tgt := 35) rfl ?_
        exact gj_iretR (pc := 35) cx hr hlk d_M_freed_35 (by rw [rFrd, if_pos ⟨hb1, hbN⟩, xN_nI (show x < 2147483648 by omega), xN_nI (show b < 2147483648 by omega)])
