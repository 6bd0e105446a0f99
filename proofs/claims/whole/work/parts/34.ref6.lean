/-! Contracts of the reference, sixth part, laid by wip/gen/m_ref.py -/
set_option maxRecDepth 100000 in
set_option maxHeartbeats 4000000 in
theorem c_M_heard (l : Launch) (D : va_G) (cI cJ : ClassId) (am : Nat → Nat) (n f : Nat) (z : Int64) (S : RS) (nd : Int32) (kd : Int32) (bd : Int32) (qd : Int32) (hn : n ≤ 7) (hok : rOk S) : MRi l y_M_heard (wsM y_M_heard b_M_heard 10 (some .int)) { frames := 1, cells := 0, slots := 0, locals := 24 } D vwK (tyl cI cJ) (rW cI cJ am n f z S) [.ref (am 0), .int nd, .int kd, .int bd, .int qd] (rHeard S n nd kd bd qd) := by
  refine gj_enterR (own := R_M) (by decide) rfl (Nat.le_of_ble_eq_true rfl) rfl rfl (fun p e s m below meth c cx hr hlk hK => ?_)
  refine gj_iload_n (pc := 0) cx d_M_heard_0 rfl (x := kd) rfl ?_
  refine gj_iconst (pc := 1) cx d_M_heard_1 (v := nI 4) (by decide) ?_
  refine gj_icmp_ne (pc := 2) cx d_M_heard_2 (tgt := 18) rfl (fun hb1 => ?_) (fun hb1 => ?_)
  · refine gj_iconst (pc := 18) cx d_M_heard_18 (v := nI 0) (by decide) ?_
    refine gj_istore (pc := 19) cx d_M_heard_19 (lo' := [(5, .int (nI 0)), (0, .ref (am 0)), (1, .int nd), (2, .int kd), (3, .int bd), (4, .int qd)]) (by decide) rfl ?_
    refine gj_iload_n (pc := 21) cx d_M_heard_21 rfl (x := kd) rfl ?_
    refine gj_iconst (pc := 22) cx d_M_heard_22 (v := nI 1) (by decide) ?_
    refine gj_icmp_lt (pc := 23) cx d_M_heard_23 (tgt := 45) rfl (fun hb2 => ?_) (fun hb2 => ?_)
    · refine gj_iconst (pc := 45) cx d_M_heard_45 (v := nI 0) (by decide) ?_
      refine gj_istore (pc := 46) cx d_M_heard_46 (lo' := [(6, .int (nI 0)), (5, .int (nI 0)), (0, .ref (am 0)), (1, .int nd), (2, .int kd), (3, .int bd), (4, .int qd)]) (by decide) rfl ?_
      refine gj_aload_n (pc := 48) cx d_M_heard_48 rfl (x := am 0) rfl ?_
      refine gj_iload_n (pc := 49) cx d_M_heard_49 rfl (x := nd) rfl ?_
      refine gj_callVRi (pc := 50) (As := [.int nd]) (rest := []) (v := bI (rCor S n nd)) cx hK (c_M_correct l D cI cJ am n f z S nd (by omega) (hok)) (cwV 1 cx.2.2.2.2 (good_V wm_380 wm_378 wm_379 wm_556 wm_5) rfl rfl rfl (by decide +kernel) ⟨Nat.le_of_ble_eq_true rfl, Nat.le_of_ble_eq_true rfl⟩) gj_rP 0 2 rfl rfl rfl rfl rfl (Nat.le_of_ble_eq_true rfl) d_M_heard_50 ⟨Nat.zero_le _, Nat.zero_le _⟩ ?_
      refine gj_if_eqB (pc := 53) cx d_M_heard_53 (tgt := 66) rfl (fun hb3 => ?_) (fun hb3 => ?_)
      · refine gj_iconst (pc := 66) cx d_M_heard_66 (v := (-1)) (by decide) ?_
        exact gj_iretR (pc := 67) cx hr hlk d_M_heard_67 (by rw [rHeard_c hb3])
      · refine gj_iload (pc := 56) cx d_M_heard_56 (x := nI 0) rfl ?_
        refine gj_if_neN (pc := 58) cx d_M_heard_58 (tgt := 68) rfl (by omega) (fun hb4 => absurd hb4 (by omega)) (fun hb4 => ?_)
        refine gj_iload (pc := 61) cx d_M_heard_61 (x := nI 0) rfl ?_
        refine gj_if_neN (pc := 63) cx d_M_heard_63 (tgt := 68) rfl (by omega) (fun hb5 => absurd hb5 (by omega)) (fun hb5 => ?_)
        refine gj_iconst (pc := 66) cx d_M_heard_66 (v := (-1)) (by decide) ?_
        exact gj_iretR (pc := 67) cx hr hlk d_M_heard_67 (by rw [rHeard_lo hn hb2])
    · refine gj_iload_n (pc := 26) cx d_M_heard_26 rfl (x := kd) rfl ?_
      refine gj_iconst (pc := 27) cx d_M_heard_27 (v := nI 3) (by decide) ?_
      refine gj_icmp_gt (pc := 28) cx d_M_heard_28 (tgt := 45) rfl (fun hb6 => ?_) (fun hb6 => ?_)
      · refine gj_iconst (pc := 45) cx d_M_heard_45 (v := nI 0) (by decide) ?_
        refine gj_istore (pc := 46) cx d_M_heard_46 (lo' := [(6, .int (nI 0)), (5, .int (nI 0)), (0, .ref (am 0)), (1, .int nd), (2, .int kd), (3, .int bd), (4, .int qd)]) (by decide) rfl ?_
        refine gj_aload_n (pc := 48) cx d_M_heard_48 rfl (x := am 0) rfl ?_
        refine gj_iload_n (pc := 49) cx d_M_heard_49 rfl (x := nd) rfl ?_
        refine gj_callVRi (pc := 50) (As := [.int nd]) (rest := []) (v := bI (rCor S n nd)) cx hK (c_M_correct l D cI cJ am n f z S nd (by omega) (hok)) (cwV 1 cx.2.2.2.2 (good_V wm_380 wm_378 wm_379 wm_556 wm_5) rfl rfl rfl (by decide +kernel) ⟨Nat.le_of_ble_eq_true rfl, Nat.le_of_ble_eq_true rfl⟩) gj_rP 0 2 rfl rfl rfl rfl rfl (Nat.le_of_ble_eq_true rfl) d_M_heard_50 ⟨Nat.zero_le _, Nat.zero_le _⟩ ?_
        refine gj_if_eqB (pc := 53) cx d_M_heard_53 (tgt := 66) rfl (fun hb7 => ?_) (fun hb7 => ?_)
        · refine gj_iconst (pc := 66) cx d_M_heard_66 (v := (-1)) (by decide) ?_
          exact gj_iretR (pc := 67) cx hr hlk d_M_heard_67 (by rw [rHeard_c hb7])
        · refine gj_iload (pc := 56) cx d_M_heard_56 (x := nI 0) rfl ?_
          refine gj_if_neN (pc := 58) cx d_M_heard_58 (tgt := 68) rfl (by omega) (fun hb8 => absurd hb8 (by omega)) (fun hb8 => ?_)
          refine gj_iload (pc := 61) cx d_M_heard_61 (x := nI 0) rfl ?_
          refine gj_if_neN (pc := 63) cx d_M_heard_63 (tgt := 68) rfl (by omega) (fun hb9 => absurd hb9 (by omega)) (fun hb9 => ?_)
          refine gj_iconst (pc := 66) cx d_M_heard_66 (v := (-1)) (by decide) ?_
          exact gj_iretR (pc := 67) cx hr hlk d_M_heard_67 (by rw [rHeard_n (tpc_n hb1 (Or.inr (Or.inl hb6)))])
      · refine gj_aload_n (pc := 31) cx d_M_heard_31 rfl (x := am 0) rfl ?_
        refine gj_iload_n (pc := 32) cx d_M_heard_32 rfl (x := bd) rfl ?_
        refine gj_iload (pc := 33) cx d_M_heard_33 (x := qd) rfl ?_
        refine gj_callVRi (pc := 35) (As := [.int bd, .int qd]) (rest := []) (v := bI (isIn n bd qd)) cx hK (c_M_isInstance l D cI cJ am n f z S bd qd ) (cwV 2 cx.2.2.2.2 (good_V wm_396 wm_394 wm_395 wm_558 wm_5) rfl rfl rfl (by decide +kernel) ⟨Nat.le_of_ble_eq_true rfl, Nat.le_of_ble_eq_true rfl⟩) gj_rP 0 2 rfl rfl rfl rfl rfl (Nat.le_of_ble_eq_true rfl) d_M_heard_35 ⟨Nat.zero_le _, Nat.zero_le _⟩ ?_
        refine gj_if_eqB (pc := 38) cx d_M_heard_38 (tgt := 45) rfl (fun hb10 => ?_) (fun hb10 => ?_)
        · refine gj_iconst (pc := 45) cx d_M_heard_45 (v := nI 0) (by decide) ?_
          refine gj_istore (pc := 46) cx d_M_heard_46 (lo' := [(6, .int (nI 0)), (5, .int (nI 0)), (0, .ref (am 0)), (1, .int nd), (2, .int kd), (3, .int bd), (4, .int qd)]) (by decide) rfl ?_
          refine gj_aload_n (pc := 48) cx d_M_heard_48 rfl (x := am 0) rfl ?_
          refine gj_iload_n (pc := 49) cx d_M_heard_49 rfl (x := nd) rfl ?_
          refine gj_callVRi (pc := 50) (As := [.int nd]) (rest := []) (v := bI (rCor S n nd)) cx hK (c_M_correct l D cI cJ am n f z S nd (by omega) (hok)) (cwV 1 cx.2.2.2.2 (good_V wm_380 wm_378 wm_379 wm_556 wm_5) rfl rfl rfl (by decide +kernel) ⟨Nat.le_of_ble_eq_true rfl, Nat.le_of_ble_eq_true rfl⟩) gj_rP 0 2 rfl rfl rfl rfl rfl (Nat.le_of_ble_eq_true rfl) d_M_heard_50 ⟨Nat.zero_le _, Nat.zero_le _⟩ ?_
          refine gj_if_eqB (pc := 53) cx d_M_heard_53 (tgt := 66) rfl (fun hb11 => ?_) (fun hb11 => ?_)
          · refine gj_iconst (pc := 66) cx d_M_heard_66 (v := (-1)) (by decide) ?_
            exact gj_iretR (pc := 67) cx hr hlk d_M_heard_67 (by rw [rHeard_c hb11])
          · refine gj_iload (pc := 56) cx d_M_heard_56 (x := nI 0) rfl ?_
            refine gj_if_neN (pc := 58) cx d_M_heard_58 (tgt := 68) rfl (by omega) (fun hb12 => absurd hb12 (by omega)) (fun hb12 => ?_)
            refine gj_iload (pc := 61) cx d_M_heard_61 (x := nI 0) rfl ?_
            refine gj_if_neN (pc := 63) cx d_M_heard_63 (tgt := 68) rfl (by omega) (fun hb13 => absurd hb13 (by omega)) (fun hb13 => ?_)
            refine gj_iconst (pc := 66) cx d_M_heard_66 (v := (-1)) (by decide) ?_
            exact gj_iretR (pc := 67) cx hr hlk d_M_heard_67 (by rw [rHeard_n (tpc_isIn hb1 hb10)])
        · refine gj_iconst (pc := 41) cx d_M_heard_41 (v := nI 1) (by decide) ?_
          refine gj_goto (pc := 42) cx d_M_heard_42 (tgt := 46) rfl ?_
          refine gj_istore (pc := 46) cx d_M_heard_46 (lo' := [(6, .int (nI 1)), (5, .int (nI 0)), (0, .ref (am 0)), (1, .int nd), (2, .int kd), (3, .int bd), (4, .int qd)]) (by decide) rfl ?_
          refine gj_aload_n (pc := 48) cx d_M_heard_48 rfl (x := am 0) rfl ?_
          refine gj_iload_n (pc := 49) cx d_M_heard_49 rfl (x := nd) rfl ?_
          refine gj_callVRi (pc := 50) (As := [.int nd]) (rest := []) (v := bI (rCor S n nd)) cx hK (c_M_correct l D cI cJ am n f z S nd (by omega) (hok)) (cwV 1 cx.2.2.2.2 (good_V wm_380 wm_378 wm_379 wm_556 wm_5) rfl rfl rfl (by decide +kernel) ⟨Nat.le_of_ble_eq_true rfl, Nat.le_of_ble_eq_true rfl⟩) gj_rP 0 2 rfl rfl rfl rfl rfl (Nat.le_of_ble_eq_true rfl) d_M_heard_50 ⟨Nat.zero_le _, Nat.zero_le _⟩ ?_
          refine gj_if_eqB (pc := 53) cx d_M_heard_53 (tgt := 66) rfl (fun hb14 => ?_) (fun hb14 => ?_)
          · refine gj_iconst (pc := 66) cx d_M_heard_66 (v := (-1)) (by decide) ?_
            exact gj_iretR (pc := 67) cx hr hlk d_M_heard_67 (by rw [rHeard_c hb14])
          · refine gj_iload (pc := 56) cx d_M_heard_56 (x := nI 0) rfl ?_
            refine gj_if_neN (pc := 58) cx d_M_heard_58 (tgt := 68) rfl (by omega) (fun hb15 => absurd hb15 (by omega)) (fun hb15 => ?_)
            refine gj_iload (pc := 61) cx d_M_heard_61 (x := nI 1) rfl ?_
            refine gj_if_neN (pc := 63) cx d_M_heard_63 (tgt := 68) rfl (by omega) (fun hb16 => ?_) (fun hb16 => absurd hb16 (by omega))
            obtain ⟨k, b, q, hk1, hk, hb, hq1, hq5, rfl, rfl, rfl⟩ := kbq1 hn hb2 hb6 hb10
            obtain ⟨x, hx, rfl, hxc⟩ := rCor_of hn hb14
            refine gj_iconst (pc := 68) cx d_M_heard_68 (v := nI 0) (by decide) ?_
            refine gj_istore (pc := 69) cx d_M_heard_69 (lo' := [(7, .int (nI 0)), (6, .int (nI 1)), (5, .int (nI 0)), (0, .ref (am 0)), (1, .int (nI x)), (2, .int (nI k)), (3, .int (nI b)), (4, .int (nI q))]) (by decide) rfl ?_
            refine gj_iconst (pc := 71) cx d_M_heard_71 (v := nI 0) (by decide) ?_
            refine gj_istore (pc := 72) cx d_M_heard_72 (lo' := [(8, .int (nI 0)), (7, .int (nI 0)), (6, .int (nI 1)), (5, .int (nI 0)), (0, .ref (am 0)), (1, .int (nI x)), (2, .int (nI k)), (3, .int (nI b)), (4, .int (nI q))]) (by decide) rfl ?_
            refine gj_pick (lo' := [(0, .ref (am 0)), (1, .int (nI x)), (2, .int (nI k)), (3, .int (nI b)), (4, .int (nI q)), (5, .int (nI 0)), (7, .int (nI 0)), (8, .int (nI 0))]) [4, 5, 6, 7, 8, 3, 1, 0] rfl ?_
            refine gj_forG (G := Gj p l e _ s m _ below meth c _ _ _ _ _) n 74 (fun i => [(0, .ref (am 0)), (1, .int (nI x)), (2, .int (nI k)), (3, .int (nI b)), (4, .int (nI q)), (5, .int (nI 0)), (7, .int (nI (cntB (fun y => decide (rHe S (((x * 3 + k - 1) * 35 + b * 5 + q - 1) * 7 + y) ≠ 0)) i))), (8, .int (nI i))]) (fun i => rW cI cJ am n f z S) (fun i hi ihi => ?_) 0 (by omega)
            refine gj_iload (pc := 74) cx d_M_heard_74 (x := nI i) rfl ?_
            refine gj_aload_n (pc := 76) cx d_M_heard_76 rfl (x := am 0) rfl ?_
            refine gj_get (pc := 77) (ci := 2) (C := R_M) (T := T_M) (N := 15) (v := .int (nI n)) cx hK gj_rP in_M d_M_heard_77 0 rfl rfl 0 (by decide) (in_WT wm_341) rfl ?_
            refine gj_icmp_geN (pc := 80) cx d_M_heard_80 (tgt := 152) rfl (by omega) (by omega) (fun hb17 => ?_) (fun hb17 => ?_)
            · refine gj_iload (pc := 152) cx d_M_heard_152 (x := nI (cntB (fun y => decide (rHe S (((x * 3 + k - 1) * 35 + b * 5 + q - 1) * 7 + y) ≠ 0)) i)) rfl ?_
              exact gj_iretR (pc := 154) cx hr hlk d_M_heard_154 (by rw [rHeard_k hn (by omega) hb14 hk1 hk hb hq1 hq5, show i = n from (by omega)]; rfl)
            · refine gj_iload (pc := 83) cx d_M_heard_83 (x := nI 0) rfl ?_
              refine gj_if_eqN (pc := 85) cx d_M_heard_85 (tgt := 111) rfl (by omega) (fun hb18 => ?_) (fun hb18 => absurd hb18 (by omega))
              refine gj_aload_n (pc := 111) cx d_M_heard_111 rfl (x := am 0) rfl ?_
              refine gj_get (pc := 112) (ci := 2) (C := R_M) (T := T_M) (N := 15) (v := .ref (am 10)) cx hK gj_rP in_M d_M_heard_112 0 rfl rfl 12 (by decide) (in_WT wm_353) rfl ?_
              refine gj_iload_n (pc := 115) cx d_M_heard_115 rfl (x := nI x) rfl ?_
              refine gj_iload_n (pc := 116) cx d_M_heard_116 rfl (x := nI k) rfl ?_
              refine gj_iload_n (pc := 117) cx d_M_heard_117 rfl (x := nI b) rfl ?_
              refine gj_iload (pc := 118) cx d_M_heard_118 (x := nI q) rfl ?_
              refine gj_iload (pc := 120) cx d_M_heard_120 (x := nI i) rfl ?_
              refine gj_callSRi (pc := 122) (As := [.int (nI x), .int (nI k), .int (nI b), .int (nI q), .int (nI i)]) (rest := [.ref (am 10)]) (v := nI (((x * 3 + k - 1) * 35 + b * 5 + q - 1) * 7 + i)) cx hK (c_M_ear l D (tyl cI cJ) x k b q i (by omega) (by omega)) (va_cwS 5 cx.2.2.2.2 (good_S wm_427 wm_425 wm_426 wm_5) rfl rfl rfl (by decide +kernel) ⟨Nat.le_of_ble_eq_true rfl, Nat.le_of_ble_eq_true rfl⟩) (fun _ _ _ => gj_P0) rfl rfl (Nat.le_of_ble_eq_true rfl) d_M_heard_122 ⟨Nat.zero_le _, Nat.zero_le _⟩ ?_
              refine gj_lald (pc := 125) (i := ((x * 3 + k - 1) * 35 + b * 5 + q - 1) * 7 + i) (f := rHe S) cx hK gj_rP d_M_heard_125 10 1 rfl rfl (by omega) (by decide) ?_
              refine gj_lconst (pc := 126) cx d_M_heard_126 (v := 0) (by decide) ?_
              refine gj_lcmp_eq (pc := 127) cx d_M_heard_127 d_M_heard_128 (tgt := 135) rfl (fun hb19 => ?_) (fun hb19 => ?_)
              · refine gj_iconst (pc := 135) cx d_M_heard_135 (v := nI 0) (by decide) ?_
                refine gj_istore (pc := 136) cx d_M_heard_136 (lo' := [(9, .int (nI 0)), (0, .ref (am 0)), (1, .int (nI x)), (2, .int (nI k)), (3, .int (nI b)), (4, .int (nI q)), (5, .int (nI 0)), (7, .int (nI (cntB (fun y => decide (rHe S (((x * 3 + k - 1) * 35 + b * 5 + q - 1) * 7 + y) ≠ 0)) i))), (8, .int (nI i))]) (by decide) rfl ?_
                refine gj_iload (pc := 138) cx d_M_heard_138 (x := nI 0) rfl ?_
                refine gj_if_eqN (pc := 140) cx d_M_heard_140 (tgt := 146) rfl (by omega) (fun hb20 => ?_) (fun hb20 => absurd hb20 (by omega))
                refine gj_iincN (pc := 146) cx d_M_heard_146 (k := 8) (d := 1) (lo' := [(8, .int (nI (i + 1))), (9, .int (nI 0)), (0, .ref (am 0)), (1, .int (nI x)), (2, .int (nI k)), (3, .int (nI b)), (4, .int (nI q)), (5, .int (nI 0)), (7, .int (nI (cntB (fun y => decide (rHe S (((x * 3 + k - 1) * 35 + b * 5 + q - 1) * 7 + y) ≠ 0)) i)))]) rfl (by decide) (by decide) rfl ?_
                refine gj_goto (pc := 149) cx d_M_heard_149 (tgt := 74) rfl ?_
                refine gj_pick (lo' := [(0, .ref (am 0)), (1, .int (nI x)), (2, .int (nI k)), (3, .int (nI b)), (4, .int (nI q)), (5, .int (nI 0)), (7, .int (nI (cntB (fun y => decide (rHe S (((x * 3 + k - 1) * 35 + b * 5 + q - 1) * 7 + y) ≠ 0)) i))), (8, .int (nI (i + 1)))]) [2, 3, 4, 5, 6, 7, 8, 0] rfl ?_
                exact gj_eq rfl (by simp [cntB, hb17, hb18, hb19, hb20]) rfl (rfl) (ihi (by omega))
              · refine gj_iconst (pc := 131) cx d_M_heard_131 (v := nI 1) (by decide) ?_
                refine gj_goto (pc := 132) cx d_M_heard_132 (tgt := 136) rfl ?_
                refine gj_istore (pc := 136) cx d_M_heard_136 (lo' := [(9, .int (nI 1)), (0, .ref (am 0)), (1, .int (nI x)), (2, .int (nI k)), (3, .int (nI b)), (4, .int (nI q)), (5, .int (nI 0)), (7, .int (nI (cntB (fun y => decide (rHe S (((x * 3 + k - 1) * 35 + b * 5 + q - 1) * 7 + y) ≠ 0)) i))), (8, .int (nI i))]) (by decide) rfl ?_
                refine gj_iload (pc := 138) cx d_M_heard_138 (x := nI 1) rfl ?_
                refine gj_if_eqN (pc := 140) cx d_M_heard_140 (tgt := 146) rfl (by omega) (fun hb21 => absurd hb21 (by omega)) (fun hb21 => ?_)
                refine gj_iincN (pc := 143) cx d_M_heard_143 (k := 7) (d := 1) (lo' := [(7, .int (nI ((cntB (fun y => decide (rHe S (((x * 3 + k - 1) * 35 + b * 5 + q - 1) * 7 + y) ≠ 0)) i) + 1))), (9, .int (nI 1)), (0, .ref (am 0)), (1, .int (nI x)), (2, .int (nI k)), (3, .int (nI b)), (4, .int (nI q)), (5, .int (nI 0)), (8, .int (nI i))]) rfl (by decide) (by decide) rfl ?_
                refine gj_iincN (pc := 146) cx d_M_heard_146 (k := 8) (d := 1) (lo' := [(8, .int (nI (i + 1))), (7, .int (nI ((cntB (fun y => decide (rHe S (((x * 3 + k - 1) * 35 + b * 5 + q - 1) * 7 + y) ≠ 0)) i) + 1))), (9, .int (nI 1)), (0, .ref (am 0)), (1, .int (nI x)), (2, .int (nI k)), (3, .int (nI b)), (4, .int (nI q)), (5, .int (nI 0))]) rfl (by decide) (by decide) rfl ?_
                refine gj_goto (pc := 149) cx d_M_heard_149 (tgt := 74) rfl ?_
                refine gj_pick (lo' := [(0, .ref (am 0)), (1, .int (nI x)), (2, .int (nI k)), (3, .int (nI b)), (4, .int (nI q)), (5, .int (nI 0)), (7, .int (nI ((cntB (fun y => decide (rHe S (((x * 3 + k - 1) * 35 + b * 5 + q - 1) * 7 + y) ≠ 0)) i) + 1))), (8, .int (nI (i + 1)))]) [3, 4, 5, 6, 7, 8, 1, 0] rfl ?_
                exact gj_eq rfl (by simp [cntB, hb17, hb18, hb19, hb21]) rfl (rfl) (ihi (by omega))
  · refine gj_iload_n (pc := 5) cx d_M_heard_5 rfl (x := bd) rfl ?_
    refine gj_if_ne (pc := 6) cx d_M_heard_6 (tgt := 18) rfl (fun hb22 => ?_) (fun hb22 => ?_)
    · refine gj_iconst (pc := 18) cx d_M_heard_18 (v := nI 0) (by decide) ?_
      refine gj_istore (pc := 19) cx d_M_heard_19 (lo' := [(5, .int (nI 0)), (0, .ref (am 0)), (1, .int nd), (2, .int kd), (3, .int bd), (4, .int qd)]) (by decide) rfl ?_
      refine gj_iload_n (pc := 21) cx d_M_heard_21 rfl (x := kd) rfl ?_
      refine gj_iconst (pc := 22) cx d_M_heard_22 (v := nI 1) (by decide) ?_
      refine gj_icmp_lt (pc := 23) cx d_M_heard_23 (tgt := 45) rfl (fun hb23 => absurd hb23 (by rw [hb1]; decide)) (fun hb23 => ?_)
      refine gj_iload_n (pc := 26) cx d_M_heard_26 rfl (x := kd) rfl ?_
      refine gj_iconst (pc := 27) cx d_M_heard_27 (v := nI 3) (by decide) ?_
      refine gj_icmp_gt (pc := 28) cx d_M_heard_28 (tgt := 45) rfl (fun hb24 => ?_) (fun hb24 => absurd hb24 (fun z => z (by rw [hb1]; decide)))
      refine gj_iconst (pc := 45) cx d_M_heard_45 (v := nI 0) (by decide) ?_
      refine gj_istore (pc := 46) cx d_M_heard_46 (lo' := [(6, .int (nI 0)), (5, .int (nI 0)), (0, .ref (am 0)), (1, .int nd), (2, .int kd), (3, .int bd), (4, .int qd)]) (by decide) rfl ?_
      refine gj_aload_n (pc := 48) cx d_M_heard_48 rfl (x := am 0) rfl ?_
      refine gj_iload_n (pc := 49) cx d_M_heard_49 rfl (x := nd) rfl ?_
      refine gj_callVRi (pc := 50) (As := [.int nd]) (rest := []) (v := bI (rCor S n nd)) cx hK (c_M_correct l D cI cJ am n f z S nd (by omega) (hok)) (cwV 1 cx.2.2.2.2 (good_V wm_380 wm_378 wm_379 wm_556 wm_5) rfl rfl rfl (by decide +kernel) ⟨Nat.le_of_ble_eq_true rfl, Nat.le_of_ble_eq_true rfl⟩) gj_rP 0 2 rfl rfl rfl rfl rfl (Nat.le_of_ble_eq_true rfl) d_M_heard_50 ⟨Nat.zero_le _, Nat.zero_le _⟩ ?_
      refine gj_if_eqB (pc := 53) cx d_M_heard_53 (tgt := 66) rfl (fun hb25 => ?_) (fun hb25 => ?_)
      · refine gj_iconst (pc := 66) cx d_M_heard_66 (v := (-1)) (by decide) ?_
        exact gj_iretR (pc := 67) cx hr hlk d_M_heard_67 (by rw [rHeard_c hb25])
      · refine gj_iload (pc := 56) cx d_M_heard_56 (x := nI 0) rfl ?_
        refine gj_if_neN (pc := 58) cx d_M_heard_58 (tgt := 68) rfl (by omega) (fun hb26 => absurd hb26 (by omega)) (fun hb26 => ?_)
        refine gj_iload (pc := 61) cx d_M_heard_61 (x := nI 0) rfl ?_
        refine gj_if_neN (pc := 63) cx d_M_heard_63 (tgt := 68) rfl (by omega) (fun hb27 => absurd hb27 (by omega)) (fun hb27 => ?_)
        refine gj_iconst (pc := 66) cx d_M_heard_66 (v := (-1)) (by decide) ?_
        exact gj_iretR (pc := 67) cx hr hlk d_M_heard_67 (by rw [rHeard_n (tpc_4a hb1 hb22)])
    · refine gj_iload (pc := 9) cx d_M_heard_9 (x := qd) rfl ?_
      refine gj_if_ne (pc := 11) cx d_M_heard_11 (tgt := 18) rfl (fun hb28 => ?_) (fun hb28 => ?_)
      · refine gj_iconst (pc := 18) cx d_M_heard_18 (v := nI 0) (by decide) ?_
        refine gj_istore (pc := 19) cx d_M_heard_19 (lo' := [(5, .int (nI 0)), (0, .ref (am 0)), (1, .int nd), (2, .int kd), (3, .int bd), (4, .int qd)]) (by decide) rfl ?_
        refine gj_iload_n (pc := 21) cx d_M_heard_21 rfl (x := kd) rfl ?_
        refine gj_iconst (pc := 22) cx d_M_heard_22 (v := nI 1) (by decide) ?_
        refine gj_icmp_lt (pc := 23) cx d_M_heard_23 (tgt := 45) rfl (fun hb29 => absurd hb29 (by rw [hb1]; decide)) (fun hb29 => ?_)
        refine gj_iload_n (pc := 26) cx d_M_heard_26 rfl (x := kd) rfl ?_
        refine gj_iconst (pc := 27) cx d_M_heard_27 (v := nI 3) (by decide) ?_
        refine gj_icmp_gt (pc := 28) cx d_M_heard_28 (tgt := 45) rfl (fun hb30 => ?_) (fun hb30 => absurd hb30 (fun z => z (by rw [hb1]; decide)))
        refine gj_iconst (pc := 45) cx d_M_heard_45 (v := nI 0) (by decide) ?_
        refine gj_istore (pc := 46) cx d_M_heard_46 (lo' := [(6, .int (nI 0)), (5, .int (nI 0)), (0, .ref (am 0)), (1, .int nd), (2, .int kd), (3, .int bd), (4, .int qd)]) (by decide) rfl ?_
        refine gj_aload_n (pc := 48) cx d_M_heard_48 rfl (x := am 0) rfl ?_
        refine gj_iload_n (pc := 49) cx d_M_heard_49 rfl (x := nd) rfl ?_
        refine gj_callVRi (pc := 50) (As := [.int nd]) (rest := []) (v := bI (rCor S n nd)) cx hK (c_M_correct l D cI cJ am n f z S nd (by omega) (hok)) (cwV 1 cx.2.2.2.2 (good_V wm_380 wm_378 wm_379 wm_556 wm_5) rfl rfl rfl (by decide +kernel) ⟨Nat.le_of_ble_eq_true rfl, Nat.le_of_ble_eq_true rfl⟩) gj_rP 0 2 rfl rfl rfl rfl rfl (Nat.le_of_ble_eq_true rfl) d_M_heard_50 ⟨Nat.zero_le _, Nat.zero_le _⟩ ?_
        refine gj_if_eqB (pc := 53) cx d_M_heard_53 (tgt := 66) rfl (fun hb31 => ?_) (fun hb31 => ?_)
        · refine gj_iconst (pc := 66) cx d_M_heard_66 (v := (-1)) (by decide) ?_
          exact gj_iretR (pc := 67) cx hr hlk d_M_heard_67 (by rw [rHeard_c hb31])
        · refine gj_iload (pc := 56) cx d_M_heard_56 (x := nI 0) rfl ?_
          refine gj_if_neN (pc := 58) cx d_M_heard_58 (tgt := 68) rfl (by omega) (fun hb32 => absurd hb32 (by omega)) (fun hb32 => ?_)
          refine gj_iload (pc := 61) cx d_M_heard_61 (x := nI 0) rfl ?_
          refine gj_if_neN (pc := 63) cx d_M_heard_63 (tgt := 68) rfl (by omega) (fun hb33 => absurd hb33 (by omega)) (fun hb33 => ?_)
          refine gj_iconst (pc := 66) cx d_M_heard_66 (v := (-1)) (by decide) ?_
          exact gj_iretR (pc := 67) cx hr hlk d_M_heard_67 (by rw [rHeard_n (tpc_4b hb1 hb28)])
      · refine gj_iconst (pc := 14) cx d_M_heard_14 (v := nI 1) (by decide) ?_
        refine gj_goto (pc := 15) cx d_M_heard_15 (tgt := 19) rfl ?_
        refine gj_istore (pc := 19) cx d_M_heard_19 (lo' := [(5, .int (nI 1)), (0, .ref (am 0)), (1, .int nd), (2, .int kd), (3, .int bd), (4, .int qd)]) (by decide) rfl ?_
        refine gj_iload_n (pc := 21) cx d_M_heard_21 rfl (x := kd) rfl ?_
        refine gj_iconst (pc := 22) cx d_M_heard_22 (v := nI 1) (by decide) ?_
        refine gj_icmp_lt (pc := 23) cx d_M_heard_23 (tgt := 45) rfl (fun hb34 => absurd hb34 (by rw [hb1]; decide)) (fun hb34 => ?_)
        refine gj_iload_n (pc := 26) cx d_M_heard_26 rfl (x := kd) rfl ?_
        refine gj_iconst (pc := 27) cx d_M_heard_27 (v := nI 3) (by decide) ?_
        refine gj_icmp_gt (pc := 28) cx d_M_heard_28 (tgt := 45) rfl (fun hb35 => ?_) (fun hb35 => absurd hb35 (fun z => z (by rw [hb1]; decide)))
        refine gj_iconst (pc := 45) cx d_M_heard_45 (v := nI 0) (by decide) ?_
        refine gj_istore (pc := 46) cx d_M_heard_46 (lo' := [(6, .int (nI 0)), (5, .int (nI 1)), (0, .ref (am 0)), (1, .int nd), (2, .int kd), (3, .int bd), (4, .int qd)]) (by decide) rfl ?_
        refine gj_aload_n (pc := 48) cx d_M_heard_48 rfl (x := am 0) rfl ?_
        refine gj_iload_n (pc := 49) cx d_M_heard_49 rfl (x := nd) rfl ?_
        refine gj_callVRi (pc := 50) (As := [.int nd]) (rest := []) (v := bI (rCor S n nd)) cx hK (c_M_correct l D cI cJ am n f z S nd (by omega) (hok)) (cwV 1 cx.2.2.2.2 (good_V wm_380 wm_378 wm_379 wm_556 wm_5) rfl rfl rfl (by decide +kernel) ⟨Nat.le_of_ble_eq_true rfl, Nat.le_of_ble_eq_true rfl⟩) gj_rP 0 2 rfl rfl rfl rfl rfl (Nat.le_of_ble_eq_true rfl) d_M_heard_50 ⟨Nat.zero_le _, Nat.zero_le _⟩ ?_
        refine gj_if_eqB (pc := 53) cx d_M_heard_53 (tgt := 66) rfl (fun hb36 => ?_) (fun hb36 => ?_)
        · refine gj_iconst (pc := 66) cx d_M_heard_66 (v := (-1)) (by decide) ?_
          exact gj_iretR (pc := 67) cx hr hlk d_M_heard_67 (by rw [rHeard_c hb36])
        · refine gj_iload (pc := 56) cx d_M_heard_56 (x := nI 1) rfl ?_
          refine gj_if_neN (pc := 58) cx d_M_heard_58 (tgt := 68) rfl (by omega) (fun hb37 => ?_) (fun hb37 => absurd hb37 (by omega))
          obtain ⟨x, hx, rfl, hxc⟩ := rCor_of hn hb36
          refine gj_iconst (pc := 68) cx d_M_heard_68 (v := nI 0) (by decide) ?_
          refine gj_istore (pc := 69) cx d_M_heard_69 (lo' := [(7, .int (nI 0)), (6, .int (nI 0)), (5, .int (nI 1)), (0, .ref (am 0)), (1, .int (nI x)), (2, .int kd), (3, .int bd), (4, .int qd)]) (by decide) rfl ?_
          refine gj_iconst (pc := 71) cx d_M_heard_71 (v := nI 0) (by decide) ?_
          refine gj_istore (pc := 72) cx d_M_heard_72 (lo' := [(8, .int (nI 0)), (7, .int (nI 0)), (6, .int (nI 0)), (5, .int (nI 1)), (0, .ref (am 0)), (1, .int (nI x)), (2, .int kd), (3, .int bd), (4, .int qd)]) (by decide) rfl ?_
          refine gj_pick (lo' := [(0, .ref (am 0)), (1, .int (nI x)), (5, .int (nI 1)), (7, .int (nI 0)), (8, .int (nI 0))]) [4, 5, 3, 1, 0] rfl ?_
          refine gj_forG (G := Gj p l e _ s m _ below meth c _ _ _ _ _) n 74 (fun i => [(0, .ref (am 0)), (1, .int (nI x)), (5, .int (nI 1)), (7, .int (nI (cntB (fun y => decide (0 < rHm S (7 * x + y))) i))), (8, .int (nI i))]) (fun i => rW cI cJ am n f z S) (fun i hi ihi => ?_) 0 (by omega)
          refine gj_iload (pc := 74) cx d_M_heard_74 (x := nI i) rfl ?_
          refine gj_aload_n (pc := 76) cx d_M_heard_76 rfl (x := am 0) rfl ?_
          refine gj_get (pc := 77) (ci := 2) (C := R_M) (T := T_M) (N := 15) (v := .int (nI n)) cx hK gj_rP in_M d_M_heard_77 0 rfl rfl 0 (by decide) (in_WT wm_341) rfl ?_
          refine gj_icmp_geN (pc := 80) cx d_M_heard_80 (tgt := 152) rfl (by omega) (by omega) (fun hb38 => ?_) (fun hb38 => ?_)
          · refine gj_iload (pc := 152) cx d_M_heard_152 (x := nI (cntB (fun y => decide (0 < rHm S (7 * x + y))) i)) rfl ?_
            exact gj_iretR (pc := 154) cx hr hlk d_M_heard_154 (by rw [rHeard_4 (by omega) hb36 hb1 hb22 hb28, show i = n from (by omega)]; rfl)
          · refine gj_iload (pc := 83) cx d_M_heard_83 (x := nI 1) rfl ?_
            refine gj_if_eqN (pc := 85) cx d_M_heard_85 (tgt := 111) rfl (by omega) (fun hb39 => absurd hb39 (by omega)) (fun hb39 => ?_)
            refine gj_aload_n (pc := 88) cx d_M_heard_88 rfl (x := am 0) rfl ?_
            refine gj_get (pc := 89) (ci := 2) (C := R_M) (T := T_M) (N := 15) (v := .ref (am 11)) cx hK gj_rP in_M d_M_heard_89 0 rfl rfl 13 (by decide) (in_WT wm_354) rfl ?_
            refine gj_bipush (pc := 92) cx d_M_heard_92 (v := nI 7) (by decide) ?_
            refine gj_iload_n (pc := 94) cx d_M_heard_94 rfl (x := nI x) rfl ?_
            refine gj_imulN (pc := 95) cx d_M_heard_95 ?_
            refine gj_iload (pc := 96) cx d_M_heard_96 (x := nI i) rfl ?_
            refine gj_iaddN (pc := 98) cx d_M_heard_98 ?_
            refine gj_ialdN (pc := 99) (i := (7 * x) + i) (f := rHm S) cx hK gj_rP d_M_heard_99 11 0 rfl rfl (by omega) (by decide) ?_
            have hv40 := hok.2.2.2.2.2 ((7 * x) + i)
            refine gj_if_leN (pc := 100) cx d_M_heard_100 (tgt := 107) rfl (by omega) (fun hb41 => ?_) (fun hb41 => ?_)
            · refine gj_iconst (pc := 107) cx d_M_heard_107 (v := nI 0) (by decide) ?_
              refine gj_goto (pc := 108) cx d_M_heard_108 (tgt := 136) rfl ?_
              refine gj_istore (pc := 136) cx d_M_heard_136 (lo' := [(9, .int (nI 0)), (0, .ref (am 0)), (1, .int (nI x)), (5, .int (nI 1)), (7, .int (nI (cntB (fun y => decide (0 < rHm S (7 * x + y))) i))), (8, .int (nI i))]) (by decide) rfl ?_
              refine gj_iload (pc := 138) cx d_M_heard_138 (x := nI 0) rfl ?_
              refine gj_if_eqN (pc := 140) cx d_M_heard_140 (tgt := 146) rfl (by omega) (fun hb42 => ?_) (fun hb42 => absurd hb42 (by omega))
              refine gj_iincN (pc := 146) cx d_M_heard_146 (k := 5) (d := 1) (lo' := [(8, .int (nI (i + 1))), (9, .int (nI 0)), (0, .ref (am 0)), (1, .int (nI x)), (5, .int (nI 1)), (7, .int (nI (cntB (fun y => decide (0 < rHm S (7 * x + y))) i)))]) rfl (by decide) (by decide) rfl ?_
              refine gj_goto (pc := 149) cx d_M_heard_149 (tgt := 74) rfl ?_
              refine gj_pick (lo' := [(0, .ref (am 0)), (1, .int (nI x)), (5, .int (nI 1)), (7, .int (nI (cntB (fun y => decide (0 < rHm S (7 * x + y))) i))), (8, .int (nI (i + 1)))]) [2, 3, 4, 5, 0] rfl ?_
              exact gj_eq rfl (by rw [cntB_f (decide_eq_false (by omega))]) rfl (rfl) (ihi (by omega))
            · refine gj_iconst (pc := 103) cx d_M_heard_103 (v := nI 1) (by decide) ?_
              refine gj_goto (pc := 104) cx d_M_heard_104 (tgt := 136) rfl ?_
              refine gj_istore (pc := 136) cx d_M_heard_136 (lo' := [(9, .int (nI 1)), (0, .ref (am 0)), (1, .int (nI x)), (5, .int (nI 1)), (7, .int (nI (cntB (fun y => decide (0 < rHm S (7 * x + y))) i))), (8, .int (nI i))]) (by decide) rfl ?_
              refine gj_iload (pc := 138) cx d_M_heard_138 (x := nI 1) rfl ?_
              refine gj_if_eqN (pc := 140) cx d_M_heard_140 (tgt := 146) rfl (by omega) (fun hb43 => absurd hb43 (by omega)) (fun hb43 => ?_)
              refine gj_iincN (pc := 143) cx d_M_heard_143 (k := 4) (d := 1) (lo' := [(7, .int (nI ((cntB (fun y => decide (0 < rHm S (7 * x + y))) i) + 1))), (9, .int (nI 1)), (0, .ref (am 0)), (1, .int (nI x)), (5, .int (nI 1)), (8, .int (nI i))]) rfl (by decide) (by decide) rfl ?_
              refine gj_iincN (pc := 146) cx d_M_heard_146 (k := 5) (d := 1) (lo' := [(8, .int (nI (i + 1))), (7, .int (nI ((cntB (fun y => decide (0 < rHm S (7 * x + y))) i) + 1))), (9, .int (nI 1)), (0, .ref (am 0)), (1, .int (nI x)), (5, .int (nI 1))]) rfl (by decide) (by decide) rfl ?_
              refine gj_goto (pc := 149) cx d_M_heard_149 (tgt := 74) rfl ?_
              refine gj_pick (lo' := [(0, .ref (am 0)), (1, .int (nI x)), (5, .int (nI 1)), (7, .int (nI ((cntB (fun y => decide (0 < rHm S (7 * x + y))) i) + 1))), (8, .int (nI (i + 1)))]) [3, 4, 5, 1, 0] rfl ?_
              exact gj_eq rfl (by rw [cntB_t (decide_eq_true hb41)]) rfl (rfl) (ihi (by omega))

set_option maxRecDepth 100000 in
set_option maxHeartbeats 4000000 in
theorem c_M_kept (l : Launch) (D : va_G) (cI cJ : ClassId) (am : Nat → Nat) (n f : Nat) (z : Int64) (S : RS) (nd : Int32) (hn : n ≤ 7) (hok : rOk S) : MRi l y_M_kept (wsM y_M_kept b_M_kept 7 (some .int)) { frames := 2, cells := 0, slots := 0, locals := 53 } D vwK (tyl cI cJ) (rW cI cJ am n f z S) [.ref (am 0), .int nd] (rKept S n nd) := by
  refine gj_enterR (own := R_M) (by decide) rfl (Nat.le_of_ble_eq_true rfl) rfl rfl (fun p e s m below meth c cx hr hlk hK => ?_)
  refine gj_aload_n (pc := 0) cx d_M_kept_0 rfl (x := am 0) rfl ?_
  refine gj_iload_n (pc := 1) cx d_M_kept_1 rfl (x := nd) rfl ?_
  refine gj_callVRi (pc := 2) (As := [.int nd]) (rest := []) (v := bI (rCor S n nd)) cx hK (c_M_correct l D cI cJ am n f z S nd (by omega) (hok)) (cwV 1 cx.2.2.2.2 (good_V wm_380 wm_378 wm_379 wm_556 wm_5) rfl rfl rfl (by decide +kernel) ⟨Nat.le_of_ble_eq_true rfl, Nat.le_of_ble_eq_true rfl⟩) gj_rP 0 2 rfl rfl rfl rfl rfl (Nat.le_of_ble_eq_true rfl) d_M_kept_2 ⟨Nat.zero_le _, Nat.zero_le _⟩ ?_
  refine gj_if_neB (pc := 5) cx d_M_kept_5 (tgt := 10) rfl (fun hb1 => ?_) (fun hb1 => ?_)
  · obtain ⟨x, hx, rfl, hxc⟩ := rCor_of hn hb1
    refine gj_iconst (pc := 10) cx d_M_kept_10 (v := nI 0) (by decide) ?_
    refine gj_istore_n (pc := 11) cx d_M_kept_11 rfl (lo' := [(2, .int (nI 0)), (0, .ref (am 0)), (1, .int (nI x))]) (by decide) rfl ?_
    refine gj_iconst (pc := 12) cx d_M_kept_12 (v := nI 0) (by decide) ?_
    refine gj_istore_n (pc := 13) cx d_M_kept_13 rfl (lo' := [(3, .int (nI 0)), (2, .int (nI 0)), (0, .ref (am 0)), (1, .int (nI x))]) (by decide) rfl ?_
    refine gj_pick (lo' := [(0, .ref (am 0)), (1, .int (nI x)), (2, .int (nI 0)), (3, .int (nI 0))]) [2, 3, 1, 0] rfl ?_
    refine gj_forG (G := Gj p l e _ s m _ below meth c _ _ _ _ _) n 14 (fun b => [(0, .ref (am 0)), (1, .int (nI x)), (2, .int (nI (sumN (fun b => cntB (rKpt S n x b) 5) b))), (3, .int (nI b))]) (fun b => rW cI cJ am n f z S) (fun b hb ihb => ?_) 0 (by omega)
    refine gj_iload_n (pc := 14) cx d_M_kept_14 rfl (x := nI b) rfl ?_
    refine gj_aload_n (pc := 15) cx d_M_kept_15 rfl (x := am 0) rfl ?_
    refine gj_get (pc := 16) (ci := 2) (C := R_M) (T := T_M) (N := 15) (v := .int (nI n)) cx hK gj_rP in_M d_M_kept_16 0 rfl rfl 0 (by decide) (in_WT wm_341) rfl ?_
    refine gj_icmp_geN (pc := 19) cx d_M_kept_19 (tgt := 118) rfl (by omega) (by omega) (fun hb2 => ?_) (fun hb2 => ?_)
    · refine gj_iload_n (pc := 118) cx d_M_kept_118 rfl (x := nI (sumN (fun b => cntB (rKpt S n x b) 5) b)) rfl ?_
      exact gj_iretR (pc := 119) cx hr hlk d_M_kept_119 (by rw [rKept, if_pos hb1, xN_nI (by omega), show b = n from (by omega)])
    · refine gj_iconst (pc := 22) cx d_M_kept_22 (v := nI 1) (by decide) ?_
      refine gj_istore (pc := 23) cx d_M_kept_23 (lo' := [(4, .int (nI 1)), (0, .ref (am 0)), (1, .int (nI x)), (2, .int (nI (sumN (fun b => cntB (rKpt S n x b) 5) b))), (3, .int (nI b))]) (by decide) rfl ?_
      refine gj_pick (lo' := [(0, .ref (am 0)), (1, .int (nI x)), (2, .int (nI (sumN (fun b => cntB (rKpt S n x b) 5) b))), (3, .int (nI b)), (4, .int (nI 1))]) [1, 2, 3, 4, 0] rfl ?_
      refine gj_forG (G := Gj p l e _ s m _ below meth c _ _ _ _ _) 5 25 (fun j => [(0, .ref (am 0)), (1, .int (nI x)), (2, .int (nI (sumN (fun b => cntB (rKpt S n x b) 5) b + cntB (rKpt S n x b) j))), (3, .int (nI b)), (4, .int (nI (j + 1)))]) (fun j => rW cI cJ am n f z S) (fun j hj ihj => ?_) 0 (by omega)
      refine gj_iload (pc := 25) cx d_M_kept_25 (x := nI (j + 1)) rfl ?_
      refine gj_iconst (pc := 27) cx d_M_kept_27 (v := nI 5) (by decide) ?_
      refine gj_icmp_gtN (pc := 28) cx d_M_kept_28 (tgt := 112) rfl (by omega) (by omega) (fun hb3 => ?_) (fun hb3 => ?_)
      · refine gj_iincN (pc := 112) cx d_M_kept_112 (k := 3) (d := 1) (lo' := [(3, .int (nI (b + 1))), (0, .ref (am 0)), (1, .int (nI x)), (2, .int (nI (sumN (fun b => cntB (rKpt S n x b) 5) b + cntB (rKpt S n x b) j))), (4, .int (nI (j + 1)))]) rfl (by decide) (by decide) rfl ?_
        refine gj_goto (pc := 115) cx d_M_kept_115 (tgt := 14) rfl ?_
        refine gj_pick (lo' := [(0, .ref (am 0)), (1, .int (nI x)), (2, .int (nI (sumN (fun b => cntB (rKpt S n x b) 5) b + cntB (rKpt S n x b) j))), (3, .int (nI (b + 1)))]) [1, 2, 3, 0] rfl ?_
        exact gj_eq rfl (by simp [sumN, show j = 5 from (by omega)]) rfl (rfl) (ihb (by omega))
      · refine gj_iconst (pc := 31) cx d_M_kept_31 (v := nI 0) (by decide) ?_
        refine gj_istore (pc := 32) cx d_M_kept_32 (lo' := [(5, .int (nI 0)), (0, .ref (am 0)), (1, .int (nI x)), (2, .int (nI (sumN (fun b => cntB (rKpt S n x b) 5) b + cntB (rKpt S n x b) j))), (3, .int (nI b)), (4, .int (nI (j + 1)))]) (by decide) rfl ?_
        refine gj_iconst (pc := 34) cx d_M_kept_34 (v := nI 1) (by decide) ?_
        refine gj_istore (pc := 35) cx d_M_kept_35 (lo' := [(6, .int (nI 1)), (5, .int (nI 0)), (0, .ref (am 0)), (1, .int (nI x)), (2, .int (nI (sumN (fun b => cntB (rKpt S n x b) 5) b + cntB (rKpt S n x b) j))), (3, .int (nI b)), (4, .int (nI (j + 1)))]) (by decide) rfl ?_
        refine gj_pick (lo' := [(0, .ref (am 0)), (1, .int (nI x)), (2, .int (nI (sumN (fun b => cntB (rKpt S n x b) 5) b + cntB (rKpt S n x b) j))), (3, .int (nI b)), (4, .int (nI (j + 1))), (5, .int (nI 0)), (6, .int (nI 1))]) [2, 3, 4, 5, 6, 1, 0] rfl ?_
        refine gj_forG (G := Gj p l e _ s m _ below meth c _ _ _ _ _) 3 37 (fun g => [(0, .ref (am 0)), (1, .int (nI x)), (2, .int (nI (sumN (fun b => cntB (rKpt S n x b) 5) b + cntB (rKpt S n x b) j))), (3, .int (nI b)), (4, .int (nI (j + 1))), (5, .int (nI (rEars S n x b j g))), (6, .int (nI (g + 1)))]) (fun g => rW cI cJ am n f z S) (fun g hg ihg => ?_) 0 (by omega)
        refine gj_iload (pc := 37) cx d_M_kept_37 (x := nI (g + 1)) rfl ?_
        refine gj_iconst (pc := 39) cx d_M_kept_39 (v := nI 3) (by decide) ?_
        refine gj_icmp_gtN (pc := 40) cx d_M_kept_40 (tgt := 64) rfl (by omega) (by omega) (fun hb4 => ?_) (fun hb4 => ?_)
        · obtain rfl : g = 3 := by omega
          have hel := rEars_le S n x b j 3
          refine gj_iload (pc := 64) cx d_M_kept_64 (x := nI (rEars S n x b j 3)) rfl ?_
          refine gj_if_gtN (pc := 66) cx d_M_kept_66 (tgt := 103) rfl (by omega) (fun hb5 => ?_) (fun hb5 => ?_)
          · refine gj_iincN (pc := 103) cx d_M_kept_103 (k := 2) (d := 1) (lo' := [(2, .int (nI ((sumN (fun b => cntB (rKpt S n x b) 5) b + cntB (rKpt S n x b) j) + 1))), (0, .ref (am 0)), (1, .int (nI x)), (3, .int (nI b)), (4, .int (nI (j + 1))), (5, .int (nI (rEars S n x b j 3))), (6, .int (nI (3 + 1)))]) rfl (by decide) (by decide) rfl ?_
            refine gj_iincN (pc := 106) cx d_M_kept_106 (k := 4) (d := 1) (lo' := [(4, .int (nI ((j + 1) + 1))), (2, .int (nI ((sumN (fun b => cntB (rKpt S n x b) 5) b + cntB (rKpt S n x b) j) + 1))), (0, .ref (am 0)), (1, .int (nI x)), (3, .int (nI b)), (5, .int (nI (rEars S n x b j 3))), (6, .int (nI (3 + 1)))]) rfl (by decide) (by decide) rfl ?_
            refine gj_goto (pc := 109) cx d_M_kept_109 (tgt := 25) rfl ?_
            refine gj_pick (lo' := [(0, .ref (am 0)), (1, .int (nI x)), (2, .int (nI ((sumN (fun b => cntB (rKpt S n x b) 5) b + cntB (rKpt S n x b) j) + 1))), (3, .int (nI b)), (4, .int (nI ((j + 1) + 1)))]) [2, 3, 1, 4, 0] rfl ?_
            exact gj_eq rfl (by rw [cntB_t (rKpt_1 hb5), Nat.add_assoc]) rfl (rfl) (ihj (by omega))
          · refine gj_aload_n (pc := 69) cx d_M_kept_69 rfl (x := am 0) rfl ?_
            refine gj_get (pc := 70) (ci := 2) (C := R_M) (T := T_M) (N := 15) (v := .ref (am 5)) cx hK gj_rP in_M d_M_kept_70 0 rfl rfl 7 (by decide) (in_WT wm_348) rfl ?_
            refine gj_iload_n (pc := 73) cx d_M_kept_73 rfl (x := nI x) rfl ?_
            refine gj_iload_n (pc := 74) cx d_M_kept_74 rfl (x := nI b) rfl ?_
            refine gj_iload (pc := 75) cx d_M_kept_75 (x := nI (j + 1)) rfl ?_
            refine gj_callSRi (pc := 77) (As := [.int (nI x), .int (nI b), .int (nI (j + 1))]) (rest := [.ref (am 5)]) (v := nI ((x * 7 + b) * 5 + (j + 1) - 1)) cx hK (c_M_at l D (tyl cI cJ) x b (j + 1) (by omega)) (va_cwS 3 cx.2.2.2.2 (good_S wm_399 wm_397 wm_398 wm_5) rfl rfl rfl (by decide +kernel) ⟨Nat.le_of_ble_eq_true rfl, Nat.le_of_ble_eq_true rfl⟩) (fun _ _ _ => gj_P0) rfl rfl (Nat.le_of_ble_eq_true rfl) d_M_kept_77 ⟨Nat.zero_le _, Nat.zero_le _⟩ ?_
            refine gj_lald (pc := 80) (i := (x * 7 + b) * 5 + (j + 1) - 1) (f := rEc S) cx hK gj_rP d_M_kept_80 5 1 rfl rfl (by omega) (by decide) ?_
            refine gj_lconst (pc := 81) cx d_M_kept_81 (v := 0) (by decide) ?_
            refine gj_lcmp_ne (pc := 82) cx d_M_kept_82 d_M_kept_83 (tgt := 103) rfl (fun hb6 => ?_) (fun hb6 => ?_)
            · refine gj_iincN (pc := 103) cx d_M_kept_103 (k := 2) (d := 1) (lo' := [(2, .int (nI ((sumN (fun b => cntB (rKpt S n x b) 5) b + cntB (rKpt S n x b) j) + 1))), (0, .ref (am 0)), (1, .int (nI x)), (3, .int (nI b)), (4, .int (nI (j + 1))), (5, .int (nI (rEars S n x b j 3))), (6, .int (nI (3 + 1)))]) rfl (by decide) (by decide) rfl ?_
              refine gj_iincN (pc := 106) cx d_M_kept_106 (k := 4) (d := 1) (lo' := [(4, .int (nI ((j + 1) + 1))), (2, .int (nI ((sumN (fun b => cntB (rKpt S n x b) 5) b + cntB (rKpt S n x b) j) + 1))), (0, .ref (am 0)), (1, .int (nI x)), (3, .int (nI b)), (5, .int (nI (rEars S n x b j 3))), (6, .int (nI (3 + 1)))]) rfl (by decide) (by decide) rfl ?_
              refine gj_goto (pc := 109) cx d_M_kept_109 (tgt := 25) rfl ?_
              refine gj_pick (lo' := [(0, .ref (am 0)), (1, .int (nI x)), (2, .int (nI ((sumN (fun b => cntB (rKpt S n x b) 5) b + cntB (rKpt S n x b) j) + 1))), (3, .int (nI b)), (4, .int (nI ((j + 1) + 1)))]) [2, 3, 1, 4, 0] rfl ?_
              exact gj_eq rfl (by rw [cntB_t (rKpt_2 hb6), Nat.add_assoc]) rfl (rfl) (ihj (by omega))
            · refine gj_aload_n (pc := 86) cx d_M_kept_86 rfl (x := am 0) rfl ?_
              refine gj_get (pc := 87) (ci := 2) (C := R_M) (T := T_M) (N := 15) (v := .ref (am 6)) cx hK gj_rP in_M d_M_kept_87 0 rfl rfl 8 (by decide) (in_WT wm_349) rfl ?_
              refine gj_iload_n (pc := 90) cx d_M_kept_90 rfl (x := nI x) rfl ?_
              refine gj_iload_n (pc := 91) cx d_M_kept_91 rfl (x := nI b) rfl ?_
              refine gj_iload (pc := 92) cx d_M_kept_92 (x := nI (j + 1)) rfl ?_
              refine gj_callSRi (pc := 94) (As := [.int (nI x), .int (nI b), .int (nI (j + 1))]) (rest := [.ref (am 6)]) (v := nI ((x * 7 + b) * 5 + (j + 1) - 1)) cx hK (c_M_at l D (tyl cI cJ) x b (j + 1) (by omega)) (va_cwS 3 cx.2.2.2.2 (good_S wm_399 wm_397 wm_398 wm_5) rfl rfl rfl (by decide +kernel) ⟨Nat.le_of_ble_eq_true rfl, Nat.le_of_ble_eq_true rfl⟩) (fun _ _ _ => gj_P0) rfl rfl (Nat.le_of_ble_eq_true rfl) d_M_kept_94 ⟨Nat.zero_le _, Nat.zero_le _⟩ ?_
              refine gj_lald (pc := 97) (i := (x * 7 + b) * 5 + (j + 1) - 1) (f := rRe S) cx hK gj_rP d_M_kept_97 6 1 rfl rfl (by omega) (by decide) ?_
              refine gj_lconst (pc := 98) cx d_M_kept_98 (v := 0) (by decide) ?_
              refine gj_lcmp_eq (pc := 99) cx d_M_kept_99 d_M_kept_100 (tgt := 106) rfl (fun hb7 => ?_) (fun hb7 => ?_)
              · refine gj_iincN (pc := 106) cx d_M_kept_106 (k := 4) (d := 1) (lo' := [(4, .int (nI ((j + 1) + 1))), (0, .ref (am 0)), (1, .int (nI x)), (2, .int (nI (sumN (fun b => cntB (rKpt S n x b) 5) b + cntB (rKpt S n x b) j))), (3, .int (nI b)), (5, .int (nI (rEars S n x b j 3))), (6, .int (nI (3 + 1)))]) rfl (by decide) (by decide) rfl ?_
                refine gj_goto (pc := 109) cx d_M_kept_109 (tgt := 25) rfl ?_
                refine gj_pick (lo' := [(0, .ref (am 0)), (1, .int (nI x)), (2, .int (nI (sumN (fun b => cntB (rKpt S n x b) 5) b + cntB (rKpt S n x b) j))), (3, .int (nI b)), (4, .int (nI ((j + 1) + 1)))]) [1, 2, 3, 4, 0] rfl ?_
                exact gj_eq rfl (by rw [cntB_f (rKpt_0 hb5 hb6 hb7)]) rfl (rfl) (ihj (by omega))
              · refine gj_iincN (pc := 103) cx d_M_kept_103 (k := 2) (d := 1) (lo' := [(2, .int (nI ((sumN (fun b => cntB (rKpt S n x b) 5) b + cntB (rKpt S n x b) j) + 1))), (0, .ref (am 0)), (1, .int (nI x)), (3, .int (nI b)), (4, .int (nI (j + 1))), (5, .int (nI (rEars S n x b j 3))), (6, .int (nI (3 + 1)))]) rfl (by decide) (by decide) rfl ?_
                refine gj_iincN (pc := 106) cx d_M_kept_106 (k := 4) (d := 1) (lo' := [(4, .int (nI ((j + 1) + 1))), (2, .int (nI ((sumN (fun b => cntB (rKpt S n x b) 5) b + cntB (rKpt S n x b) j) + 1))), (0, .ref (am 0)), (1, .int (nI x)), (3, .int (nI b)), (5, .int (nI (rEars S n x b j 3))), (6, .int (nI (3 + 1)))]) rfl (by decide) (by decide) rfl ?_
                refine gj_goto (pc := 109) cx d_M_kept_109 (tgt := 25) rfl ?_
                refine gj_pick (lo' := [(0, .ref (am 0)), (1, .int (nI x)), (2, .int (nI ((sumN (fun b => cntB (rKpt S n x b) 5) b + cntB (rKpt S n x b) j) + 1))), (3, .int (nI b)), (4, .int (nI ((j + 1) + 1)))]) [2, 3, 1, 4, 0] rfl ?_
                exact gj_eq rfl (by rw [cntB_t (rKpt_3 hb7), Nat.add_assoc]) rfl (rfl) (ihj (by omega))
        · refine gj_iload (pc := 43) cx d_M_kept_43 (x := nI (rEars S n x b j g)) rfl ?_
          refine gj_aload_n (pc := 45) cx d_M_kept_45 rfl (x := am 0) rfl ?_
          refine gj_iload_n (pc := 46) cx d_M_kept_46 rfl (x := nI x) rfl ?_
          refine gj_iload (pc := 47) cx d_M_kept_47 (x := nI (g + 1)) rfl ?_
          refine gj_iload_n (pc := 49) cx d_M_kept_49 rfl (x := nI b) rfl ?_
          refine gj_iload (pc := 50) cx d_M_kept_50 (x := nI (j + 1)) rfl ?_
          refine gj_callVRi (pc := 52) (As := [.int (nI x), .int (nI (g + 1)), .int (nI b), .int (nI (j + 1))]) (rest := [.int (nI (rEars S n x b j g))]) (v := rHeard S n (nI x) (nI (g + 1)) (nI b) (nI (j + 1))) cx hK (c_M_heard l D cI cJ am n f z S (nI x) (nI (g + 1)) (nI b) (nI (j + 1)) (by omega) (hok)) (cwV 4 cx.2.2.2.2 (good_V wm_505 wm_526 wm_503 wm_504 wm_5) rfl rfl rfl (by decide +kernel) ⟨Nat.le_of_ble_eq_true rfl, Nat.le_of_ble_eq_true rfl⟩) gj_rP 0 2 rfl rfl rfl rfl rfl (Nat.le_of_ble_eq_true rfl) d_M_kept_52 ⟨Nat.zero_le _, Nat.zero_le _⟩ ?_
          refine gj_toi (y := nI (rHd0 S n x (g + 1) b (j + 1))) (rHeard_k hn (by omega) hb1 (by omega) (by omega) (by omega) (by omega) (by omega)) ?_
          refine gj_iaddN (pc := 55) cx d_M_kept_55 ?_
          refine gj_istore (pc := 56) cx d_M_kept_56 (lo' := [(5, .int (nI ((rEars S n x b j g) + (rHd0 S n x (g + 1) b (j + 1))))), (0, .ref (am 0)), (1, .int (nI x)), (2, .int (nI (sumN (fun b => cntB (rKpt S n x b) 5) b + cntB (rKpt S n x b) j))), (3, .int (nI b)), (4, .int (nI (j + 1))), (6, .int (nI (g + 1)))]) (by decide) rfl ?_
          refine gj_iincN (pc := 58) cx d_M_kept_58 (k := 6) (d := 1) (lo' := [(6, .int (nI ((g + 1) + 1))), (5, .int (nI ((rEars S n x b j g) + (rHd0 S n x (g + 1) b (j + 1))))), (0, .ref (am 0)), (1, .int (nI x)), (2, .int (nI (sumN (fun b => cntB (rKpt S n x b) 5) b + cntB (rKpt S n x b) j))), (3, .int (nI b)), (4, .int (nI (j + 1)))]) rfl (by decide) (by decide) rfl ?_
          refine gj_goto (pc := 61) cx d_M_kept_61 (tgt := 37) rfl ?_
          refine gj_pick (lo' := [(0, .ref (am 0)), (1, .int (nI x)), (2, .int (nI (sumN (fun b => cntB (rKpt S n x b) 5) b + cntB (rKpt S n x b) j))), (3, .int (nI b)), (4, .int (nI (j + 1))), (5, .int (nI ((rEars S n x b j g) + (rHd0 S n x (g + 1) b (j + 1))))), (6, .int (nI ((g + 1) + 1)))]) [2, 3, 4, 5, 6, 1, 0] rfl ?_
          exact gj_eq rfl (rfl) rfl (rfl) (ihg (by omega))
  · refine gj_iconst (pc := 8) cx d_M_kept_8 (v := (-1)) (by decide) ?_
    exact gj_iretR (pc := 9) cx hr hlk d_M_kept_9 (by rw [rKept, if_neg (by rw [hb1]; decide)])

set_option maxRecDepth 100000 in
set_option maxHeartbeats 4000000 in
theorem c_M_submit (l : Launch) (D : va_G) (cI cJ : ClassId) (am : Nat → Nat) (n f : Nat) (z : Int64) (S : RS) (nd : Int32) (py : Int32) (mo : Int32) (hn : n ≤ 7) (hok : rOk S) (sz : Nat) : MWi l y_M_submit (wsM y_M_submit b_M_submit 14 (some .int)) { frames := 2, cells := 0, slots := 0, locals := 50 } D vwK (tyl cI cJ) (rW cI cJ am n f z S) (rW cI cJ am n f z ((rSubmit S n z nd py mo).2)) sz [.ref (am 0), .int nd, .int py, .int mo] ((rSubmit S n z nd py mo).1) := by
  refine gj_enterW (own := R_M) (by decide) rfl (Nat.le_of_ble_eq_true rfl) rfl rfl (fun p e s m below meth c cx hr hlk hK hsz => ?_)
  have hA : ∀ q, s.heap.size ≤ q → va_A (rW cI cJ am n f z S) sz q := fun q h => Or.inr (hsz ▸ h)
  refine gj_aload_n (pc := 0) cx d_M_submit_0 rfl (x := am 0) rfl ?_
  refine gj_iload_n (pc := 1) cx d_M_submit_1 rfl (x := nd) rfl ?_
  refine gj_callVRi (pc := 2) (As := [.int nd]) (rest := []) (v := bI (rUp S n nd)) cx hK (c_M_up l D cI cJ am n f z S nd (by omega) (hok)) (cwV 1 cx.2.2.2.2 (good_V wm_402 wm_400 wm_401 wm_559 wm_5) rfl rfl rfl (by decide +kernel) ⟨Nat.le_of_ble_eq_true rfl, Nat.le_of_ble_eq_true rfl⟩) gj_wP 0 2 rfl rfl rfl rfl rfl (Nat.le_of_ble_eq_true rfl) d_M_submit_2 ⟨Nat.zero_le _, Nat.zero_le _⟩ ?_
  refine gj_if_eqB (pc := 5) cx d_M_submit_5 (tgt := 37) rfl (fun hb1 => ?_) (fun hb1 => ?_)
  · refine gj_iconst (pc := 37) cx d_M_submit_37 (v := (-1)) (by decide) ?_
    exact gj_iretW (pc := 38) cx hr hlk d_M_submit_38 (by rw [rSubmit, if_neg (fun z => by rw [hb1] at z; cases z.1)] <;> rfl) (by rw [rSubmit, if_neg (fun z => by rw [hb1] at z; cases z.1)] <;> rfl)
  · refine gj_iload_n (pc := 8) cx d_M_submit_8 rfl (x := py) rfl ?_
    refine gj_if_lt (pc := 9) cx d_M_submit_9 (tgt := 37) rfl (fun hb2 => ?_) (fun hb2 => ?_)
    · refine gj_iconst (pc := 37) cx d_M_submit_37 (v := (-1)) (by decide) ?_
      exact gj_iretW (pc := 38) cx hr hlk d_M_submit_38 (by rw [rSubmit, if_neg (fun z => by rw [isN_f1 hb2] at z; cases z.2.1)] <;> rfl) (by rw [rSubmit, if_neg (fun z => by rw [isN_f1 hb2] at z; cases z.2.1)] <;> rfl)
    · refine gj_iload_n (pc := 12) cx d_M_submit_12 rfl (x := py) rfl ?_
      refine gj_aload_n (pc := 13) cx d_M_submit_13 rfl (x := am 0) rfl ?_
      refine gj_get (pc := 14) (ci := 2) (C := R_M) (T := T_M) (N := 15) (v := .int (nI n)) cx hK gj_wP in_M d_M_submit_14 0 rfl rfl 0 (by decide) (in_WT wm_341) rfl ?_
      refine gj_icmp_ge (pc := 17) cx d_M_submit_17 (tgt := 37) rfl (fun hb3 => ?_) (fun hb3 => ?_)
      · refine gj_iconst (pc := 37) cx d_M_submit_37 (v := (-1)) (by decide) ?_
        exact gj_iretW (pc := 38) cx hr hlk d_M_submit_38 (by rw [rSubmit, if_neg (fun z => by rw [isN_f2 hb3] at z; cases z.2.1)] <;> rfl) (by rw [rSubmit, if_neg (fun z => by rw [isN_f2 hb3] at z; cases z.2.1)] <;> rfl)
      · refine gj_iload_n (pc := 20) cx d_M_submit_20 rfl (x := py) rfl ?_
        refine gj_iload_n (pc := 21) cx d_M_submit_21 rfl (x := nd) rfl ?_
        refine gj_icmp_eq (pc := 22) cx d_M_submit_22 (tgt := 37) rfl (fun hb4 => ?_) (fun hb4 => ?_)
        · refine gj_iconst (pc := 37) cx d_M_submit_37 (v := (-1)) (by decide) ?_
          exact gj_iretW (pc := 38) cx hr hlk d_M_submit_38 (by rw [rSubmit, if_neg (fun z => z.2.2.1 hb4)] <;> rfl) (by rw [rSubmit, if_neg (fun z => z.2.2.1 hb4)] <;> rfl)
        · refine gj_iload_n (pc := 25) cx d_M_submit_25 rfl (x := mo) rfl ?_
          refine gj_iconst (pc := 26) cx d_M_submit_26 (v := nI 1) (by decide) ?_
          refine gj_icmp_lt (pc := 27) cx d_M_submit_27 (tgt := 37) rfl (fun hb5 => ?_) (fun hb5 => ?_)
          · refine gj_iconst (pc := 37) cx d_M_submit_37 (v := (-1)) (by decide) ?_
            exact gj_iretW (pc := 38) cx hr hlk d_M_submit_38 (by rw [rSubmit, if_neg (fun z => z.2.2.2.1 hb5)] <;> rfl) (by rw [rSubmit, if_neg (fun z => z.2.2.2.1 hb5)] <;> rfl)
          · refine gj_iload_n (pc := 30) cx d_M_submit_30 rfl (x := mo) rfl ?_
            refine gj_sipush (pc := 31) cx d_M_submit_31 (v := nI 1023) (by decide) ?_
            refine gj_icmp_le (pc := 34) cx d_M_submit_34 (tgt := 39) rfl (fun hb6 => ?_) (fun hb6 => ?_)
            · have hyN := isN_t hb2 hb3
              rw [show rSubmit S n z nd py mo = rSubN S n (xN nd) (xN py) (xN mo) z from if_pos ⟨hb1, hyN, hb4, hb5, hb6⟩]
              obtain ⟨x, hx, rfl, hxu⟩ := rUp_of hn hb1
              obtain ⟨y, hy, rfl⟩ := isN_of hn hyN
              obtain ⟨k, hk, rfl⟩ := nI_of2 (M := 1023) (n := 1023) (by decide) (fun z => hb5 (Int32.lt_of_lt_of_le z (by decide))) hb6
              rw [xN_nI (show x < 2147483648 by omega), xN_nI (show y < 2147483648 by omega), xN_nI (show k < 2147483648 by omega)]
              refine gj_aload_n (pc := 39) cx d_M_submit_39 rfl (x := am 0) rfl ?_
              refine gj_get (pc := 40) (ci := 2) (C := R_M) (T := T_M) (N := 15) (v := .ref (am 3)) cx hK gj_wP in_M d_M_submit_40 0 rfl rfl 5 (by decide) (in_WT wm_346) rfl ?_
              refine gj_iload_n (pc := 43) cx d_M_submit_43 rfl (x := nI x) rfl ?_
              refine gj_ialdN (pc := 44) (i := x) (f := rSu S) cx hK gj_wP d_M_submit_44 3 0 rfl rfl (by omega) (by decide) ?_
              have hv7 := hok.2.2.1 x
              refine gj_iconst (pc := 45) cx d_M_submit_45 (v := nI 5) (by decide) ?_
              refine gj_icmp_neN (pc := 46) cx d_M_submit_46 (tgt := 52) rfl (by omega) (by omega) (fun hb8 => ?_) (fun hb8 => ?_)
              · refine gj_aload_n (pc := 52) cx d_M_submit_52 rfl (x := am 0) rfl ?_
                refine gj_iload_n (pc := 53) cx d_M_submit_53 rfl (x := nI x) rfl ?_
                refine gj_iload_n (pc := 54) cx d_M_submit_54 rfl (x := nI x) rfl ?_
                refine gj_callVRl (pc := 55) (As := [.int (nI x), .int (nI x)]) (rest := []) (v := rWo (rAp S) x x z n) cx hK (c_M_worth l D cI cJ am n f z S x x (by omega) (by omega) (by omega)) (cwV 2 cx.2.2.2.2 (good_V wm_464 wm_462 wm_463 wm_573 wm_5) rfl rfl rfl (by decide +kernel) ⟨Nat.le_of_ble_eq_true rfl, Nat.le_of_ble_eq_true rfl⟩) gj_wP 0 2 rfl rfl rfl rfl rfl (Nat.le_of_ble_eq_true rfl) d_M_submit_55 ⟨Nat.zero_le _, Nat.zero_le _⟩ ?_
                refine gj_lstore (pc := 58) cx d_M_submit_58 (lo' := [(4, .long (rWo (rAp S) x x z n)), (0, .ref (am 0)), (1, .int (nI x)), (2, .int (nI y)), (3, .int (nI k))]) (by decide) rfl ?_
                refine gj_aload_n (pc := 60) cx d_M_submit_60 rfl (x := am 0) rfl ?_
                refine gj_iload_n (pc := 61) cx d_M_submit_61 rfl (x := nI x) rfl ?_
                refine gj_iload_n (pc := 62) cx d_M_submit_62 rfl (x := nI x) rfl ?_
                refine gj_callVRi (pc := 63) (As := [.int (nI x), .int (nI x)]) (rest := []) (v := nI (rCnt S x x)) cx hK (c_M_count l D cI cJ am n f z S x x (by omega) (by omega)) (cwV 2 cx.2.2.2.2 (good_V wm_455 wm_453 wm_454 wm_570 wm_5) rfl rfl rfl (by decide +kernel) ⟨Nat.le_of_ble_eq_true rfl, Nat.le_of_ble_eq_true rfl⟩) gj_wP 0 2 rfl rfl rfl rfl rfl (Nat.le_of_ble_eq_true rfl) d_M_submit_63 ⟨Nat.zero_le _, Nat.zero_le _⟩ ?_
                have hv9 := rCnt_lt S x x
                refine gj_iconst (pc := 66) cx d_M_submit_66 (v := nI 1) (by decide) ?_
                refine gj_iaddN (pc := 67) cx d_M_submit_67 ?_
                refine gj_istore (pc := 68) cx d_M_submit_68 (lo' := [(6, .int (nI ((rCnt S x x) + 1))), (4, .long (rWo (rAp S) x x z n)), (0, .ref (am 0)), (1, .int (nI x)), (2, .int (nI y)), (3, .int (nI k))]) (by decide) rfl ?_
                refine gj_pick (lo' := [(0, .ref (am 0)), (1, .int (nI x)), (2, .int (nI y)), (3, .int (nI k)), (4, .long (rWo (rAp S) x x z n)), (6, .int (nI ((rCnt S x x) + 1)))]) [2, 3, 4, 5, 1, 0] rfl ?_
                refine gj_forG (G := Gj p l e _ s m _ below meth c _ _ _ _ _) (rSu S x - rCnt S x x) 70 (fun j => [(0, .ref (am 0)), (1, .int (nI x)), (2, .int (nI y)), (3, .int (nI k)), (4, .long (rLeft S n x z (rCnt S x x) j)), (6, .int (nI (rCnt S x x + 1 + j)))]) (fun j => rW cI cJ am n f z S) (fun j hj ihj => ?_) 0 (by omega)
                refine gj_iload (pc := 70) cx d_M_submit_70 (x := nI (rCnt S x x + 1 + j)) rfl ?_
                refine gj_aload_n (pc := 72) cx d_M_submit_72 rfl (x := am 0) rfl ?_
                refine gj_get (pc := 73) (ci := 2) (C := R_M) (T := T_M) (N := 15) (v := .ref (am 3)) cx hK gj_wP in_M d_M_submit_73 0 rfl rfl 5 (by decide) (in_WT wm_346) rfl ?_
                refine gj_iload_n (pc := 76) cx d_M_submit_76 rfl (x := nI x) rfl ?_
                refine gj_ialdN (pc := 77) (i := x) (f := rSu S) cx hK gj_wP d_M_submit_77 3 0 rfl rfl (by omega) (by decide) ?_
                have hv10 := hok.2.2.1 x
                refine gj_icmp_gtN (pc := 78) cx d_M_submit_78 (tgt := 109) rfl (by omega) (by omega) (fun hb11 => ?_) (fun hb11 => ?_)
                · have hj : j = rSu S x - rCnt S x x := by have := hok.2.2.1 x; omega
                  subst hj
                  refine gj_lload (pc := 109) cx d_M_submit_109 (x := rSpend S n x z) rfl ?_
                  refine gj_iload_n (pc := 111) cx d_M_submit_111 rfl (x := nI k) rfl ?_
                  refine gj_i2l (pc := 112) cx d_M_submit_112 rfl ?_
                  refine gj_tol (y := lN k) (nI_l (by omega)) ?_
                  refine gj_lcmp_ge (pc := 113) cx d_M_submit_113 d_M_submit_114 (tgt := 120) rfl (fun hb12 => ?_) (fun hb12 => ?_)
                  · refine gj_iload_n (pc := 120) cx d_M_submit_120 rfl (x := nI y) rfl ?_
                    refine gj_i2l (pc := 121) cx d_M_submit_121 rfl ?_
                    refine gj_ldc2 (pc := 122) cx d_M_submit_122 (v := 8) (in_WT wm_477) ?_
                    refine gj_iload_n (pc := 125) cx d_M_submit_125 rfl (x := nI k) rfl ?_
                    refine gj_i2l (pc := 126) cx d_M_submit_126 rfl ?_
                    refine gj_lmul (pc := 127) cx d_M_submit_127 ?_
                    refine gj_ladd (pc := 128) cx d_M_submit_128 ?_
                    refine gj_tol (y := lN (y + 8 * k + 8192 * digs (rNd S x) 0)) (pap_0 (by omega) (by omega)) ?_
                    refine gj_lstore (pc := 129) cx d_M_submit_129 (lo' := [(6, .long (lN (y + 8 * k + 8192 * digs (rNd S x) 0))), (0, .ref (am 0)), (1, .int (nI x)), (2, .int (nI y)), (3, .int (nI k)), (4, .long (rSpend S n x z))]) (by decide) rfl ?_
                    refine gj_iconst (pc := 131) cx d_M_submit_131 (v := nI 0) (by decide) ?_
                    refine gj_istore (pc := 132) cx d_M_submit_132 (lo' := [(8, .int (nI 0)), (6, .long (lN (y + 8 * k + 8192 * digs (rNd S x) 0))), (0, .ref (am 0)), (1, .int (nI x)), (2, .int (nI y)), (3, .int (nI k)), (4, .long (rSpend S n x z))]) (by decide) rfl ?_
                    refine gj_pick (lo' := [(0, .ref (am 0)), (1, .int (nI x)), (2, .int (nI y)), (3, .int (nI k)), (6, .long (lN (y + 8 * k + 8192 * digs (rNd S x) 0))), (8, .int (nI 0))]) [2, 3, 4, 5, 1, 0] rfl ?_
                    refine gj_forG (G := Gj p l e _ s m _ below meth c _ _ _ _ _) n 134 (fun g => [(0, .ref (am 0)), (1, .int (nI x)), (2, .int (nI y)), (3, .int (nI k)), (6, .long (lN (y + 8 * k + 8192 * digs (rNd S x) g))), (8, .int (nI g))]) (fun g => rW cI cJ am n f z S) (fun g hg ihg => ?_) 0 (by omega)
                    refine gj_iload (pc := 134) cx d_M_submit_134 (x := nI g) rfl ?_
                    refine gj_aload_n (pc := 136) cx d_M_submit_136 rfl (x := am 0) rfl ?_
                    refine gj_get (pc := 137) (ci := 2) (C := R_M) (T := T_M) (N := 15) (v := .int (nI n)) cx hK gj_wP in_M d_M_submit_137 0 rfl rfl 0 (by decide) (in_WT wm_341) rfl ?_
                    refine gj_icmp_geN (pc := 140) cx d_M_submit_140 (tgt := 224) rfl (by omega) (by omega) (fun hb13 => ?_) (fun hb13 => ?_)
                    · have hin : n = g := by omega
                      subst hin
                      refine gj_aload_n (pc := 224) cx d_M_submit_224 rfl (x := am 0) rfl ?_
                      refine gj_iload_n (pc := 225) cx d_M_submit_225 rfl (x := nI x) rfl ?_
                      refine gj_callVWi (pc := 226) (As := [.int (nI x)]) (rest := []) (v := bI (rBn S x)) (ws' := rW cI cJ am n f z (rBurn S x)) cx hK hA (fun sz => c_M_burns l D cI cJ am n f z S x (by omega) (hok) sz) (cwV 1 cx.2.2.2.2 (good_V wm_446 wm_444 wm_445 wm_567 wm_5) rfl rfl rfl (by decide +kernel) ⟨Nat.le_of_ble_eq_true rfl, Nat.le_of_ble_eq_true rfl⟩) gj_J.self 0 2 rfl rfl rfl rfl rfl (Nat.le_of_ble_eq_true rfl) d_M_submit_226 ⟨Nat.zero_le _, Nat.zero_le _⟩ ?_
                      refine gj_if_eqB (pc := 229) cx d_M_submit_229 (tgt := 235) rfl (fun hb14 => ?_) (fun hb14 => ?_)
                      · refine gj_eq (w' := rW cI cJ am n f z (rSt S, va_up (rFu S) x (rFu S x - 1), rSu S, rOw S, rEc S, rRe S, rAp S, rFr S, rMa S, rHe S, rHm S, rAc S)) rfl rfl rfl (by rw [rBurn_t hb14]) ?_
                        refine gj_aload_n (pc := 235) cx d_M_submit_235 rfl (x := am 0) rfl ?_
                        refine gj_get (pc := 236) (ci := 2) (C := R_M) (T := T_M) (N := 15) (v := .ref (am 4)) cx hK gj_wP in_M d_M_submit_236 0 rfl rfl 6 (by decide) (in_WT wm_347) rfl ?_
                        refine gj_iconst (pc := 239) cx d_M_submit_239 (v := nI 5) (by decide) ?_
                        refine gj_iload_n (pc := 240) cx d_M_submit_240 rfl (x := nI x) rfl ?_
                        refine gj_imulN (pc := 241) cx d_M_submit_241 ?_
                        refine gj_aload_n (pc := 242) cx d_M_submit_242 rfl (x := am 0) rfl ?_
                        refine gj_get (pc := 243) (ci := 2) (C := R_M) (T := T_M) (N := 15) (v := .ref (am 3)) cx hK gj_wP in_M d_M_submit_243 0 rfl rfl 5 (by decide) (in_WT wm_346) rfl ?_
                        refine gj_iload_n (pc := 246) cx d_M_submit_246 rfl (x := nI x) rfl ?_
                        refine gj_ialdN (pc := 247) (i := x) (f := rSu S) cx hK gj_wP d_M_submit_247 3 0 rfl rfl (by omega) (by decide) ?_
                        have hv15 := hok.2.2.1 x
                        refine gj_iaddN (pc := 248) cx d_M_submit_248 ?_
                        refine gj_lload (pc := 249) cx d_M_submit_249 (x := rPap S n x y k) rfl ?_
                        refine gj_last (pc := 251) (i := (5 * x) + (rSu S x)) (f := rOw S) (x := rPap S n x y k) (ws' := rW cI cJ am n f z (rSt S, va_up (rFu S) x (rFu S x - 1), rSu S, va_up (rOw S) ((5 * x) + (rSu S x)) (rPap S n x y k), rEc S, rRe S, rAp S, rFr S, rMa S, rHe S, rHm S, rAc S)) cx hK d_M_submit_251 4 1 rfl rfl (by omega) (by decide) rfl ?_
                        refine gj_aload_n (pc := 252) cx d_M_submit_252 rfl (x := am 0) rfl ?_
                        refine gj_get (pc := 253) (ci := 2) (C := R_M) (T := T_M) (N := 15) (v := .ref (am 3)) cx hK gj_wP in_M d_M_submit_253 0 rfl rfl 5 (by decide) (in_WT wm_346) rfl ?_
                        refine gj_iload_n (pc := 256) cx d_M_submit_256 rfl (x := nI x) rfl ?_
                        refine gj_dup2_11 (pc := 257) cx d_M_submit_257 rfl rfl ?_
                        refine gj_ialdN (pc := 258) (i := x) (f := rSu S) cx hK gj_wP d_M_submit_258 3 0 rfl rfl (by omega) (by decide) ?_
                        have hv16 := hok.2.2.1 x
                        refine gj_iconst (pc := 259) cx d_M_submit_259 (v := nI 1) (by decide) ?_
                        refine gj_iaddN (pc := 260) cx d_M_submit_260 ?_
                        refine gj_iastN (pc := 261) (i := x) (f := rSu S) (x := (rSu S x) + 1) (ws' := rW cI cJ am n f z (rSt S, va_up (rFu S) x (rFu S x - 1), va_up (rSu S) x ((rSu S x) + 1), va_up (rOw S) ((5 * x) + (rSu S x)) (rPap S n x y k), rEc S, rRe S, rAp S, rFr S, rMa S, rHe S, rHm S, rAc S)) cx hK d_M_submit_261 3 0 rfl rfl (by omega) (by decide) rfl ?_
                        refine gj_aload_n (pc := 262) cx d_M_submit_262 rfl (x := am 0) rfl ?_
                        refine gj_get (pc := 263) (ci := 2) (C := R_M) (T := T_M) (N := 15) (v := .ref (am 3)) cx hK gj_wP in_M d_M_submit_263 0 rfl rfl 5 (by decide) (in_WT wm_346) rfl ?_
                        refine gj_iload_n (pc := 266) cx d_M_submit_266 rfl (x := nI x) rfl ?_
                        refine gj_ialdN (pc := 267) (i := x) (f := va_up (rSu S) x ((rSu S x) + 1)) cx hK gj_wP d_M_submit_267 3 0 rfl rfl (by omega) (by decide) ?_
                        refine gj_toi (y := nI (rSu S x + 1)) (congrArg nI (if_pos rfl)) ?_
                        exact gj_iretW (pc := 268) cx hr hlk d_M_submit_268 (by rw [rSubN, if_neg hb8, if_neg (Int64.not_lt.mpr hb12), if_neg (rBn_f hb14)]) (by rw [rSubN, if_neg hb8, if_neg (Int64.not_lt.mpr hb12), if_neg (rBn_f hb14), rUpOw, rBurn_t hb14])
                      · refine gj_bipush (pc := 232) cx d_M_submit_232 (v := (-7)) (by decide) ?_
                        exact gj_iretW (pc := 234) cx hr hlk d_M_submit_234 (by rw [rSubN, if_neg hb8, if_neg (Int64.not_lt.mpr hb12), if_pos (rBn_t hb14)]) (by rw [rSubN, if_neg hb8, if_neg (Int64.not_lt.mpr hb12), if_pos (rBn_t hb14), rBurn_1 (rBn_t hb14)])
                    · refine gj_lconst (pc := 143) cx d_M_submit_143 (v := 0) (by decide) ?_
                      refine gj_lstore (pc := 144) cx d_M_submit_144 (lo' := [(9, .long 0), (0, .ref (am 0)), (1, .int (nI x)), (2, .int (nI y)), (3, .int (nI k)), (6, .long (lN (y + 8 * k + 8192 * digs (rNd S x) g))), (8, .int (nI g))]) (by decide) rfl ?_
                      refine gj_iconst (pc := 146) cx d_M_submit_146 (v := nI 1) (by decide) ?_
                      refine gj_istore (pc := 147) cx d_M_submit_147 (lo' := [(11, .int (nI 1)), (9, .long 0), (0, .ref (am 0)), (1, .int (nI x)), (2, .int (nI y)), (3, .int (nI k)), (6, .long (lN (y + 8 * k + 8192 * digs (rNd S x) g))), (8, .int (nI g))]) (by decide) rfl ?_
                      refine gj_pick (lo' := [(0, .ref (am 0)), (1, .int (nI x)), (2, .int (nI y)), (3, .int (nI k)), (6, .long (lN (y + 8 * k + 8192 * digs (rNd S x) g))), (8, .int (nI g)), (9, .long 0), (11, .int (nI 1))]) [2, 3, 4, 5, 6, 7, 1, 0] rfl ?_
                      refine gj_forH (G := Gj p l e _ s m _ below meth c _ _ _ _ _) (fun j => g = x → rLp S x g j = 0) 5 149 (fun j => [(0, .ref (am 0)), (1, .int (nI x)), (2, .int (nI y)), (3, .int (nI k)), (6, .long (lN (y + 8 * k + 8192 * digs (rNd S x) g))), (8, .int (nI g)), (9, .long (lN (rLp S x g j))), (11, .int (nI (j + 1)))]) (fun j => rW cI cJ am n f z S) (fun j hj ihj qj => ?_) 0 (by omega) (fun _ => rfl)
                      refine gj_iload (pc := 149) cx d_M_submit_149 (x := nI (j + 1)) rfl ?_
                      refine gj_iconst (pc := 151) cx d_M_submit_151 (v := nI 5) (by decide) ?_
                      refine gj_icmp_gtN (pc := 152) cx d_M_submit_152 (tgt := 203) rfl (by omega) (by omega) (fun hb17 => ?_) (fun hb17 => ?_)
                      · have hnd : rNd S x g = rLp S x g j := by
                          unfold rNd; split
                          · rename_i hgx; exact (qj hgx).symm
                          · rw [show j = 5 from (by omega)]
                        refine gj_lload (pc := 203) cx d_M_submit_203 (x := lN (y + 8 * k + 8192 * digs (rNd S x) g)) rfl ?_
                        refine gj_lload (pc := 205) cx d_M_submit_205 (x := lN (rLp S x g j)) rfl ?_
                        refine gj_bipush (pc := 207) cx d_M_submit_207 (v := nI 13) (by decide) ?_
                        refine gj_iconst (pc := 209) cx d_M_submit_209 (v := nI 3) (by decide) ?_
                        refine gj_iload (pc := 210) cx d_M_submit_210 (x := nI g) rfl ?_
                        refine gj_imulN (pc := 212) cx d_M_submit_212 ?_
                        refine gj_iaddN (pc := 213) cx d_M_submit_213 ?_
                        refine gj_lshl (pc := 214) cx d_M_submit_214 rfl ?_
                        refine gj_ladd (pc := 215) cx d_M_submit_215 ?_
                        refine gj_tol (y := lN (y + 8 * k + 8192 * digs (rNd S x) (g + 1))) ((pap_s (by omega)).trans (congrArg lN (digs_s hnd))) ?_
                        refine gj_lstore (pc := 216) cx d_M_submit_216 (lo' := [(6, .long (lN (y + 8 * k + 8192 * digs (rNd S x) (g + 1)))), (0, .ref (am 0)), (1, .int (nI x)), (2, .int (nI y)), (3, .int (nI k)), (8, .int (nI g)), (9, .long (lN (rLp S x g j))), (11, .int (nI (j + 1)))]) (by decide) rfl ?_
                        refine gj_iincN (pc := 218) cx d_M_submit_218 (k := 5) (d := 1) (lo' := [(8, .int (nI (g + 1))), (6, .long (lN (y + 8 * k + 8192 * digs (rNd S x) (g + 1)))), (0, .ref (am 0)), (1, .int (nI x)), (2, .int (nI y)), (3, .int (nI k)), (9, .long (lN (rLp S x g j))), (11, .int (nI (j + 1)))]) rfl (by decide) (by decide) rfl ?_
                        refine gj_goto (pc := 221) cx d_M_submit_221 (tgt := 134) rfl ?_
                        refine gj_pick (lo' := [(0, .ref (am 0)), (1, .int (nI x)), (2, .int (nI y)), (3, .int (nI k)), (6, .long (lN (y + 8 * k + 8192 * digs (rNd S x) (g + 1)))), (8, .int (nI (g + 1)))]) [2, 3, 4, 5, 1, 0] rfl ?_
                        exact gj_eq rfl (rfl) rfl (rfl) (ihg (by omega))
                      · refine gj_iload (pc := 155) cx d_M_submit_155 (x := nI g) rfl ?_
                        refine gj_iload_n (pc := 157) cx d_M_submit_157 rfl (x := nI x) rfl ?_
                        refine gj_icmp_eqN (pc := 158) cx d_M_submit_158 (tgt := 203) rfl (by omega) (by omega) (fun hb18 => ?_) (fun hb18 => ?_)
                        · have hnd : rNd S x g = rLp S x g j := (if_pos hb18).trans (qj hb18).symm
                          refine gj_lload (pc := 203) cx d_M_submit_203 (x := lN (y + 8 * k + 8192 * digs (rNd S x) g)) rfl ?_
                          refine gj_lload (pc := 205) cx d_M_submit_205 (x := lN (rLp S x g j)) rfl ?_
                          refine gj_bipush (pc := 207) cx d_M_submit_207 (v := nI 13) (by decide) ?_
                          refine gj_iconst (pc := 209) cx d_M_submit_209 (v := nI 3) (by decide) ?_
                          refine gj_iload (pc := 210) cx d_M_submit_210 (x := nI g) rfl ?_
                          refine gj_imulN (pc := 212) cx d_M_submit_212 ?_
                          refine gj_iaddN (pc := 213) cx d_M_submit_213 ?_
                          refine gj_lshl (pc := 214) cx d_M_submit_214 rfl ?_
                          refine gj_ladd (pc := 215) cx d_M_submit_215 ?_
                          refine gj_tol (y := lN (y + 8 * k + 8192 * digs (rNd S x) (g + 1))) ((pap_s (by omega)).trans (congrArg lN (digs_s hnd))) ?_
                          refine gj_lstore (pc := 216) cx d_M_submit_216 (lo' := [(6, .long (lN (y + 8 * k + 8192 * digs (rNd S x) (g + 1)))), (0, .ref (am 0)), (1, .int (nI x)), (2, .int (nI y)), (3, .int (nI k)), (8, .int (nI g)), (9, .long (lN (rLp S x g j))), (11, .int (nI (j + 1)))]) (by decide) rfl ?_
                          refine gj_iincN (pc := 218) cx d_M_submit_218 (k := 5) (d := 1) (lo' := [(8, .int (nI (g + 1))), (6, .long (lN (y + 8 * k + 8192 * digs (rNd S x) (g + 1)))), (0, .ref (am 0)), (1, .int (nI x)), (2, .int (nI y)), (3, .int (nI k)), (9, .long (lN (rLp S x g j))), (11, .int (nI (j + 1)))]) rfl (by decide) (by decide) rfl ?_
                          refine gj_goto (pc := 221) cx d_M_submit_221 (tgt := 134) rfl ?_
                          refine gj_pick (lo' := [(0, .ref (am 0)), (1, .int (nI x)), (2, .int (nI y)), (3, .int (nI k)), (6, .long (lN (y + 8 * k + 8192 * digs (rNd S x) (g + 1)))), (8, .int (nI (g + 1)))]) [2, 3, 4, 5, 1, 0] rfl ?_
                          exact gj_eq rfl (rfl) rfl (rfl) (ihg (by omega))
                        · refine gj_aload_n (pc := 161) cx d_M_submit_161 rfl (x := am 0) rfl ?_
                          refine gj_get (pc := 162) (ci := 2) (C := R_M) (T := T_M) (N := 15) (v := .ref (am 7)) cx hK gj_wP in_M d_M_submit_162 0 rfl rfl 9 (by decide) (in_WT wm_350) rfl ?_
                          refine gj_iload_n (pc := 165) cx d_M_submit_165 rfl (x := nI x) rfl ?_
                          refine gj_iload (pc := 166) cx d_M_submit_166 (x := nI g) rfl ?_
                          refine gj_iload (pc := 168) cx d_M_submit_168 (x := nI (j + 1)) rfl ?_
                          refine gj_callSRi (pc := 170) (As := [.int (nI x), .int (nI g), .int (nI (j + 1))]) (rest := [.ref (am 7)]) (v := nI ((x * 7 + g) * 5 + (j + 1) - 1)) cx hK (c_M_at l D (tyl cI cJ) x g (j + 1) (by omega)) (va_cwS 3 cx.2.2.2.2 (good_S wm_399 wm_397 wm_398 wm_5) rfl rfl rfl (by decide +kernel) ⟨Nat.le_of_ble_eq_true rfl, Nat.le_of_ble_eq_true rfl⟩) (fun _ _ _ => gj_P0) rfl rfl (Nat.le_of_ble_eq_true rfl) d_M_submit_170 ⟨Nat.zero_le _, Nat.zero_le _⟩ ?_
                          refine gj_toi (y := nI ((x * 7 + g) * 5 + j)) (congrArg nI (by omega)) ?_
                          refine gj_lald (pc := 173) (i := (x * 7 + g) * 5 + j) (f := rAp S) cx hK gj_wP d_M_submit_173 7 1 rfl rfl (by omega) (by decide) ?_
                          refine gj_lstore (pc := 174) cx d_M_submit_174 (lo' := [(12, .long (rAp S ((x * 7 + g) * 5 + j))), (0, .ref (am 0)), (1, .int (nI x)), (2, .int (nI y)), (3, .int (nI k)), (6, .long (lN (y + 8 * k + 8192 * digs (rNd S x) g))), (8, .int (nI g)), (9, .long (lN (rLp S x g j))), (11, .int (nI (j + 1)))]) (by decide) rfl ?_
                          refine gj_lload (pc := 176) cx d_M_submit_176 (x := rAp S ((x * 7 + g) * 5 + j)) rfl ?_
                          refine gj_lconst (pc := 178) cx d_M_submit_178 (v := 0) (by decide) ?_
                          refine gj_lcmp_eq (pc := 179) cx d_M_submit_179 d_M_submit_180 (tgt := 197) rfl (fun hb19 => ?_) (fun hb19 => ?_)
                          · refine gj_iincN (pc := 197) cx d_M_submit_197 (k := 8) (d := 1) (lo' := [(11, .int (nI ((j + 1) + 1))), (12, .long (rAp S ((x * 7 + g) * 5 + j))), (0, .ref (am 0)), (1, .int (nI x)), (2, .int (nI y)), (3, .int (nI k)), (6, .long (lN (y + 8 * k + 8192 * digs (rNd S x) g))), (8, .int (nI g)), (9, .long (lN (rLp S x g j)))]) rfl (by decide) (by decide) rfl ?_
                            refine gj_goto (pc := 200) cx d_M_submit_200 (tgt := 149) rfl ?_
                            refine gj_pick (lo' := [(0, .ref (am 0)), (1, .int (nI x)), (2, .int (nI y)), (3, .int (nI k)), (6, .long (lN (y + 8 * k + 8192 * digs (rNd S x) g))), (8, .int (nI g)), (9, .long (lN (rLp S x g j))), (11, .int (nI ((j + 1) + 1)))]) [2, 3, 4, 5, 6, 7, 8, 0] rfl ?_
                            exact gj_eq rfl (by rw [rLp, if_neg (fun z => z.1 hb19)]) rfl (rfl) (ihj (by omega) (fun e => absurd e hb18))
                          · refine gj_lload (pc := 183) cx d_M_submit_183 (x := rAp S ((x * 7 + g) * 5 + j)) rfl ?_
                            refine gj_callSRi (pc := 185) (As := [.long (rAp S ((x * 7 + g) * 5 + j))]) (rest := []) (v := nI (payN (rAp S ((x * 7 + g) * 5 + j)))) cx hK (c_M_payeeOf l D (tyl cI cJ) (rAp S ((x * 7 + g) * 5 + j)) ) (va_cwS 1 cx.2.2.2.2 (good_S wm_417 wm_415 wm_416 wm_5) rfl rfl rfl (by decide +kernel) ⟨Nat.le_of_ble_eq_true rfl, Nat.le_of_ble_eq_true rfl⟩) (fun _ _ _ => gj_P0) rfl rfl (Nat.le_of_ble_eq_true rfl) d_M_submit_185 ⟨Nat.zero_le _, Nat.zero_le _⟩ ?_
                            have hv20 := payN_lt (rAp S ((x * 7 + g) * 5 + j))
                            refine gj_iload_n (pc := 188) cx d_M_submit_188 rfl (x := nI x) rfl ?_
                            refine gj_icmp_neN (pc := 189) cx d_M_submit_189 (tgt := 197) rfl (by omega) (by omega) (fun hb21 => ?_) (fun hb21 => ?_)
                            · refine gj_iincN (pc := 197) cx d_M_submit_197 (k := 8) (d := 1) (lo' := [(11, .int (nI ((j + 1) + 1))), (12, .long (rAp S ((x * 7 + g) * 5 + j))), (0, .ref (am 0)), (1, .int (nI x)), (2, .int (nI y)), (3, .int (nI k)), (6, .long (lN (y + 8 * k + 8192 * digs (rNd S x) g))), (8, .int (nI g)), (9, .long (lN (rLp S x g j)))]) rfl (by decide) (by decide) rfl ?_
                              refine gj_goto (pc := 200) cx d_M_submit_200 (tgt := 149) rfl ?_
                              refine gj_pick (lo' := [(0, .ref (am 0)), (1, .int (nI x)), (2, .int (nI y)), (3, .int (nI k)), (6, .long (lN (y + 8 * k + 8192 * digs (rNd S x) g))), (8, .int (nI g)), (9, .long (lN (rLp S x g j))), (11, .int (nI ((j + 1) + 1)))]) [2, 3, 4, 5, 6, 7, 8, 0] rfl ?_
                              exact gj_eq rfl (by rw [rLp, if_neg (fun z => hb21 z.2)]) rfl (rfl) (ihj (by omega) (fun e => absurd e hb18))
                            · refine gj_iload (pc := 192) cx d_M_submit_192 (x := nI (j + 1)) rfl ?_
                              refine gj_i2l (pc := 194) cx d_M_submit_194 rfl ?_
                              refine gj_tol (y := lN (j + 1)) (nI_l (by omega)) ?_
                              refine gj_lstore (pc := 195) cx d_M_submit_195 (lo' := [(9, .long (lN (j + 1))), (12, .long (rAp S ((x * 7 + g) * 5 + j))), (0, .ref (am 0)), (1, .int (nI x)), (2, .int (nI y)), (3, .int (nI k)), (6, .long (lN (y + 8 * k + 8192 * digs (rNd S x) g))), (8, .int (nI g)), (11, .int (nI (j + 1)))]) (by decide) rfl ?_
                              refine gj_iincN (pc := 197) cx d_M_submit_197 (k := 8) (d := 1) (lo' := [(11, .int (nI ((j + 1) + 1))), (9, .long (lN (j + 1))), (12, .long (rAp S ((x * 7 + g) * 5 + j))), (0, .ref (am 0)), (1, .int (nI x)), (2, .int (nI y)), (3, .int (nI k)), (6, .long (lN (y + 8 * k + 8192 * digs (rNd S x) g))), (8, .int (nI g))]) rfl (by decide) (by decide) rfl ?_
                              refine gj_goto (pc := 200) cx d_M_submit_200 (tgt := 149) rfl ?_
                              refine gj_pick (lo' := [(0, .ref (am 0)), (1, .int (nI x)), (2, .int (nI y)), (3, .int (nI k)), (6, .long (lN (y + 8 * k + 8192 * digs (rNd S x) g))), (8, .int (nI g)), (9, .long (lN (j + 1))), (11, .int (nI ((j + 1) + 1)))]) [3, 4, 5, 6, 7, 8, 1, 0] rfl ?_
                              exact gj_eq rfl (by rw [rLp, if_pos ⟨hb19, hb21⟩]) rfl (rfl) (ihj (by omega) (fun e => absurd e hb18))
                  · refine gj_bipush (pc := 117) cx d_M_submit_117 (v := (-9)) (by decide) ?_
                    exact gj_iretW (pc := 119) cx hr hlk d_M_submit_119 (by rw [rSubN, if_neg hb8, if_pos (Int64.not_le.mp hb12)] <;> rfl) (by rw [rSubN, if_neg hb8, if_pos (Int64.not_le.mp hb12)] <;> rfl)
                · refine gj_lload (pc := 81) cx d_M_submit_81 (x := rLeft S n x z (rCnt S x x) j) rfl ?_
                  refine gj_aload_n (pc := 83) cx d_M_submit_83 rfl (x := am 0) rfl ?_
                  refine gj_get (pc := 84) (ci := 2) (C := R_M) (T := T_M) (N := 15) (v := .ref (am 4)) cx hK gj_wP in_M d_M_submit_84 0 rfl rfl 6 (by decide) (in_WT wm_347) rfl ?_
                  refine gj_iconst (pc := 87) cx d_M_submit_87 (v := nI 5) (by decide) ?_
                  refine gj_iload_n (pc := 88) cx d_M_submit_88 rfl (x := nI x) rfl ?_
                  refine gj_imulN (pc := 89) cx d_M_submit_89 ?_
                  refine gj_iload (pc := 90) cx d_M_submit_90 (x := nI (rCnt S x x + 1 + j)) rfl ?_
                  refine gj_iaddN (pc := 92) cx d_M_submit_92 ?_
                  refine gj_iconst (pc := 93) cx d_M_submit_93 (v := nI 1) (by decide) ?_
                  refine gj_isubN (pc := 94) cx d_M_submit_94 (by omega) ?_
                  refine gj_toi (y := nI (5 * x + (rCnt S x x + j))) (congrArg nI (by omega)) ?_
                  refine gj_lald (pc := 95) (i := 5 * x + (rCnt S x x + j)) (f := rOw S) cx hK gj_wP d_M_submit_95 4 1 rfl rfl (by omega) (by decide) ?_
                  refine gj_callSRi (pc := 96) (As := [.long (rOw S (5 * x + (rCnt S x x + j)))]) (rest := [.long (rLeft S n x z (rCnt S x x) j)]) (v := nI (amtN (rOw S (5 * x + (rCnt S x x + j))))) cx hK (c_M_amountOf l D (tyl cI cJ) (rOw S (5 * x + (rCnt S x x + j))) ) (va_cwS 1 cx.2.2.2.2 (good_S wm_420 wm_418 wm_419 wm_5) rfl rfl rfl (by decide +kernel) ⟨Nat.le_of_ble_eq_true rfl, Nat.le_of_ble_eq_true rfl⟩) (fun _ _ _ => gj_P0) rfl rfl (Nat.le_of_ble_eq_true rfl) d_M_submit_96 ⟨Nat.zero_le _, Nat.zero_le _⟩ ?_
                  have hv22 := amtN_lt (rOw S (5 * x + (rCnt S x x + j)))
                  refine gj_i2l (pc := 99) cx d_M_submit_99 rfl ?_
                  refine gj_tol (y := lN (amtN (rOw S (5 * x + (rCnt S x x + j))))) (nI_l (by omega)) ?_
                  refine gj_lsub (pc := 100) cx d_M_submit_100 ?_
                  refine gj_lstore (pc := 101) cx d_M_submit_101 (lo' := [(4, .long ((rLeft S n x z (rCnt S x x) j) - (lN (amtN (rOw S (5 * x + (rCnt S x x + j))))))), (0, .ref (am 0)), (1, .int (nI x)), (2, .int (nI y)), (3, .int (nI k)), (6, .int (nI (rCnt S x x + 1 + j)))]) (by decide) rfl ?_
                  refine gj_iincN (pc := 103) cx d_M_submit_103 (k := 5) (d := 1) (lo' := [(6, .int (nI ((rCnt S x x + 1 + j) + 1))), (4, .long ((rLeft S n x z (rCnt S x x) j) - (lN (amtN (rOw S (5 * x + (rCnt S x x + j))))))), (0, .ref (am 0)), (1, .int (nI x)), (2, .int (nI y)), (3, .int (nI k))]) rfl (by decide) (by decide) rfl ?_
                  refine gj_goto (pc := 106) cx d_M_submit_106 (tgt := 70) rfl ?_
                  refine gj_pick (lo' := [(0, .ref (am 0)), (1, .int (nI x)), (2, .int (nI y)), (3, .int (nI k)), (4, .long ((rLeft S n x z (rCnt S x x) j) - (lN (amtN (rOw S (5 * x + (rCnt S x x + j))))))), (6, .int (nI ((rCnt S x x + 1 + j) + 1)))]) [2, 3, 4, 5, 1, 0] rfl ?_
                  exact gj_eq rfl (rfl) rfl (rfl) (ihj (by omega))
              · refine gj_bipush (pc := 49) cx d_M_submit_49 (v := (-8)) (by decide) ?_
                exact gj_iretW (pc := 51) cx hr hlk d_M_submit_51 (by rw [rSubN, if_pos hb8] <;> rfl) (by rw [rSubN, if_pos hb8] <;> rfl)
            · refine gj_iconst (pc := 37) cx d_M_submit_37 (v := (-1)) (by decide) ?_
              exact gj_iretW (pc := 38) cx hr hlk d_M_submit_38 (by rw [rSubmit, if_neg (fun z => hb6 z.2.2.2.2)] <;> rfl) (by rw [rSubmit, if_neg (fun z => hb6 z.2.2.2.2)] <;> rfl)
