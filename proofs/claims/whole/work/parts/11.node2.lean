/-! Contracts of Node, second part, laid by wip/gen/m_node.py -/
set_option maxRecDepth 100000 in
set_option maxHeartbeats 4000000 in
theorem c_N_isValid (l : Launch) (D : va_G) (cI cJ : ClassId) (a : Nat → Nat) (me n f : Nat) (u : NS) (b : Nat) (pp : Int64) (hok : nOk u) (hn : n ≤ 7) (hb : b < 7) : MRi l y_N_isValid (wsM y_N_isValid b_N_isValid 5 (some .boolean)) { frames := 1, cells := 0, slots := 0, locals := 22 } D vwK (tyl cI cJ) (nW cI cJ a me n f u) [.ref (a 0), .int (nI b), .long pp] (bI (nVal u n b pp)) := by
  obtain ⟨hco, hfu, hsu, hcn, hfr⟩ := id hok
  refine gj_enterR (own := R_N) (by decide) rfl (Nat.le_of_ble_eq_true rfl) rfl rfl (fun p e s m below meth c cx hr hlk hK => ?_)
  refine gj_lload_n (pc := 0) cx d_N_isValid_0 rfl (x := pp) rfl ?_
  refine gj_ldc2 (pc := 1) cx d_N_isValid_1 (v := (-1)) (in_WT wm_29) ?_
  refine gj_lcmp_eq (pc := 4) cx d_N_isValid_4 d_N_isValid_5 (tgt := 23) rfl (fun hb1 => ?_) (fun hb1 => ?_)
  · refine gj_iconst (pc := 23) cx d_N_isValid_23 (v := nI 0) (by decide) ?_
    exact gj_zretR (pc := 24) cx hr hlk d_N_isValid_24 rfl (by rw [show nVal u n b pp = false from if_pos (Or.inl hb1)]; rfl)
  · refine gj_aload_n (pc := 8) cx d_N_isValid_8 rfl (x := a 0) rfl ?_
    refine gj_get (pc := 9) (ci := 0) (C := R_N) (T := T_N) (N := 12) (v := .ref (a 4)) cx hK gj_rP in_N d_N_isValid_9 0 rfl rfl 9 (by decide) (in_WT wm_42) rfl ?_
    refine gj_iload_n (pc := 12) cx d_N_isValid_12 rfl (x := nI b) rfl ?_
    refine gj_lald (pc := 13) (i := b) (f := nBa u) cx hK gj_rP d_N_isValid_13 4 1 rfl rfl (by omega) (by decide) ?_
    refine gj_lload_n (pc := 14) cx d_N_isValid_14 rfl (x := pp) rfl ?_
    refine gj_callSRi (pc := 15) (As := [.long pp]) (rest := [.long (nBa u b)]) (v := nI (amtN pp)) cx hK (c_P_amount l D (tyl cI cJ) pp ) (va_cwS 1 cx.2.2.2.2 (good_S wm_93 wm_91 wm_92 wm_7) rfl rfl rfl (by decide +kernel) ⟨Nat.le_of_ble_eq_true rfl, Nat.le_of_ble_eq_true rfl⟩) (fun _ _ _ => gj_P0) rfl rfl (Nat.le_of_ble_eq_true rfl) d_N_isValid_15 ⟨Nat.zero_le _, Nat.zero_le _⟩ ?_
    have hv2 := amtN_lt pp
    refine gj_i2l (pc := 18) cx d_N_isValid_18 rfl ?_
    refine gj_tol (y := lN (amtN pp)) (nI_l (by omega)) ?_
    refine gj_lcmp_ge (pc := 19) cx d_N_isValid_19 d_N_isValid_20 (tgt := 25) rfl (fun hb3 => ?_) (fun hb3 => ?_)
    · refine gj_iconst (pc := 25) cx d_N_isValid_25 (v := nI 0) (by decide) ?_
      refine gj_istore (pc := 26) cx d_N_isValid_26 (lo' := [(4, .int (nI 0)), (0, .ref (a 0)), (1, .int (nI b)), (2, .long pp)]) (by decide) rfl ?_
      refine gj_pick (lo' := [(0, .ref (a 0)), (1, .int (nI b)), (2, .long pp), (4, .int (nI 0))]) [1, 2, 3, 0] rfl ?_
      refine gj_forH (G := Gj p l e _ s m _ below meth c _ _ _ _ _) (fun i => allB (fun c => decide (needN pp c ≤ nCn u c)) i = true) n 28 (fun i => [(0, .ref (a 0)), (1, .int (nI b)), (2, .long pp), (4, .int (nI i))]) (fun i => nW cI cJ a me n f u) (fun i hi ihi qi => ?_) 0 (by omega) (rfl)
      refine gj_iload (pc := 28) cx d_N_isValid_28 (x := nI i) rfl ?_
      refine gj_aload_n (pc := 30) cx d_N_isValid_30 rfl (x := a 0) rfl ?_
      refine gj_get (pc := 31) (ci := 0) (C := R_N) (T := T_N) (N := 12) (v := .int (nI n)) cx hK gj_rP in_N d_N_isValid_31 0 rfl rfl 1 (by decide) (in_WT wm_34) rfl ?_
      refine gj_icmp_geN (pc := 34) cx d_N_isValid_34 (tgt := 61) rfl (by omega) (by omega) (fun hb4 => ?_) (fun hb4 => ?_)
      · refine gj_iconst (pc := 61) cx d_N_isValid_61 (v := nI 1) (by decide) ?_
        exact gj_zretR (pc := 62) cx hr hlk d_N_isValid_62 rfl (by rw [nVal_ok hb1 hb3, show allB (fun c => decide (needN pp c ≤ nCn u c)) n = true from (show i = n from (by omega)) ▸ qi]; rfl)
      · refine gj_aload_n (pc := 37) cx d_N_isValid_37 rfl (x := a 0) rfl ?_
        refine gj_get (pc := 38) (ci := 0) (C := R_N) (T := T_N) (N := 12) (v := .ref (a 2)) cx hK gj_rP in_N d_N_isValid_38 0 rfl rfl 7 (by decide) (in_WT wm_40) rfl ?_
        refine gj_iload (pc := 41) cx d_N_isValid_41 (x := nI i) rfl ?_
        refine gj_ialdN (pc := 43) (i := i) (f := nCn u) cx hK gj_rP d_N_isValid_43 2 0 rfl rfl (by omega) (by decide) ?_
        have hv5 := hcn i
        refine gj_lload_n (pc := 44) cx d_N_isValid_44 rfl (x := pp) rfl ?_
        refine gj_iload (pc := 45) cx d_N_isValid_45 (x := nI i) rfl ?_
        refine gj_callSRi (pc := 47) (As := [.long pp, .int (nI i)]) (rest := [.int (nI (nCn u i))]) (v := nI (needN pp i)) cx hK (c_P_need l D (tyl cI cJ) pp i (by omega)) (va_cwS 2 cx.2.2.2.2 (good_S wm_162 wm_207 wm_161 wm_7) rfl rfl rfl (by decide +kernel) ⟨Nat.le_of_ble_eq_true rfl, Nat.le_of_ble_eq_true rfl⟩) (fun _ _ _ => gj_P0) rfl rfl (Nat.le_of_ble_eq_true rfl) d_N_isValid_47 ⟨Nat.zero_le _, Nat.zero_le _⟩ ?_
        have hv6 := needN_lt pp i
        refine gj_icmp_geN (pc := 50) cx d_N_isValid_50 (tgt := 55) rfl (by omega) (by omega) (fun hb7 => ?_) (fun hb7 => ?_)
        · refine gj_iincN (pc := 55) cx d_N_isValid_55 (k := 3) (d := 1) (lo' := [(4, .int (nI (i + 1))), (0, .ref (a 0)), (1, .int (nI b)), (2, .long pp)]) rfl (by decide) (by decide) rfl ?_
          refine gj_goto (pc := 58) cx d_N_isValid_58 (tgt := 28) rfl ?_
          refine gj_pick (lo' := [(0, .ref (a 0)), (1, .int (nI b)), (2, .long pp), (4, .int (nI (i + 1)))]) [1, 2, 3, 0] rfl ?_
          exact gj_eq rfl (rfl) rfl (rfl) (ihi (by omega) (by simp [allB, qi, hb4, hb7]))
        · refine gj_iconst (pc := 53) cx d_N_isValid_53 (v := nI 0) (by decide) ?_
          exact gj_zretR (pc := 54) cx hr hlk d_N_isValid_54 rfl (by rw [nVal_ok hb1 hb3, allB_f hb4 (by simpa using hb7)]; rfl)
    · refine gj_iconst (pc := 23) cx d_N_isValid_23 (v := nI 0) (by decide) ?_
      exact gj_zretR (pc := 24) cx hr hlk d_N_isValid_24 rfl (by rw [nVal_no hb3]; rfl)

set_option maxRecDepth 100000 in
set_option maxHeartbeats 4000000 in
theorem c_N_leastPayer (l : Launch) (D : va_G) (cI cJ : ClassId) (a : Nat → Nat) (me n f : Nat) (u : NS)  (hok : nOk u) (hn : n ≤ 7) : MRi l y_N_leastPayer (wsM y_N_leastPayer b_N_leastPayer 2 (some .int)) { frames := 2, cells := 0, slots := 0, locals := 46 } D vwK (tyl cI cJ) (nW cI cJ a me n f u) [.ref (a 0)] (if nLeast u n = n then -1 else nI (nLeast u n)) := by
  obtain ⟨hco, hfu, hsu, hcn, hfr⟩ := id hok
  refine gj_enterR (own := R_N) (by decide) rfl (Nat.le_of_ble_eq_true rfl) rfl rfl (fun p e s m below meth c cx hr hlk hK => ?_)
  refine gj_iconst (pc := 0) cx d_N_leastPayer_0 (v := nI 0) (by decide) ?_
  refine gj_istore_n (pc := 1) cx d_N_leastPayer_1 rfl (lo' := [(1, .int (nI 0)), (0, .ref (a 0))]) (by decide) rfl ?_
  refine gj_pick (lo' := [(0, .ref (a 0)), (1, .int (nI 0))]) [1, 0] rfl ?_
  refine gj_forH (G := Gj p l e _ s m _ below meth c _ _ _ _ _) (fun i => fstB (nNext u n) (n - i) i = nLeast u n) n 2 (fun i => [(0, .ref (a 0)), (1, .int (nI i))]) (fun i => nW cI cJ a me n f u) (fun i hi ihi qi => ?_) 0 (by omega) (rfl)
  refine gj_iload_n (pc := 2) cx d_N_leastPayer_2 rfl (x := nI i) rfl ?_
  refine gj_aload_n (pc := 3) cx d_N_leastPayer_3 rfl (x := a 0) rfl ?_
  refine gj_get (pc := 4) (ci := 0) (C := R_N) (T := T_N) (N := 12) (v := .int (nI n)) cx hK gj_rP in_N d_N_leastPayer_4 0 rfl rfl 1 (by decide) (in_WT wm_34) rfl ?_
  refine gj_icmp_geN (pc := 7) cx d_N_leastPayer_7 (tgt := 51) rfl (by omega) (by omega) (fun hb1 => ?_) (fun hb1 => ?_)
  · refine gj_iconst (pc := 51) cx d_N_leastPayer_51 (v := (-1)) (by decide) ?_
    exact gj_iretR (pc := 52) cx hr hlk d_N_leastPayer_52 (by have e : nLeast u n = n := qi.symm.trans ((fstB_e (by omega)).trans (by omega)); rw [if_pos e])
  · refine gj_aload_n (pc := 10) cx d_N_leastPayer_10 rfl (x := a 0) rfl ?_
    refine gj_get (pc := 11) (ci := 0) (C := R_N) (T := T_N) (N := 12) (v := .ref (a 2)) cx hK gj_rP in_N d_N_leastPayer_11 0 rfl rfl 7 (by decide) (in_WT wm_40) rfl ?_
    refine gj_iload_n (pc := 14) cx d_N_leastPayer_14 rfl (x := nI i) rfl ?_
    refine gj_ialdN (pc := 15) (i := i) (f := nCn u) cx hK gj_rP d_N_leastPayer_15 2 0 rfl rfl (by omega) (by decide) ?_
    have hv2 := hcn i
    refine gj_iconst (pc := 16) cx d_N_leastPayer_16 (v := nI 5) (by decide) ?_
    refine gj_icmp_geN (pc := 17) cx d_N_leastPayer_17 (tgt := 45) rfl (by omega) (by omega) (fun hb3 => ?_) (fun hb3 => ?_)
    · refine gj_iincN (pc := 45) cx d_N_leastPayer_45 (k := 1) (d := 1) (lo' := [(1, .int (nI (i + 1))), (0, .ref (a 0))]) rfl (by decide) (by decide) rfl ?_
      refine gj_goto (pc := 48) cx d_N_leastPayer_48 (tgt := 2) rfl ?_
      refine gj_pick (lo' := [(0, .ref (a 0)), (1, .int (nI (i + 1)))]) [1, 0] rfl ?_
      exact gj_eq rfl (rfl) rfl (rfl) (ihi (by omega) ((fstB_f (by omega) (by simp [nNext, hb1, hb3] <;> omega)).symm.trans qi))
    · refine gj_aload_n (pc := 20) cx d_N_leastPayer_20 rfl (x := a 0) rfl ?_
      refine gj_iload_n (pc := 21) cx d_N_leastPayer_21 rfl (x := nI i) rfl ?_
      refine gj_aload_n (pc := 22) cx d_N_leastPayer_22 rfl (x := a 0) rfl ?_
      refine gj_get (pc := 23) (ci := 0) (C := R_N) (T := T_N) (N := 12) (v := .ref (a 6)) cx hK gj_rP in_N d_N_leastPayer_23 0 rfl rfl 11 (by decide) (in_WT wm_44) rfl ?_
      refine gj_iload_n (pc := 26) cx d_N_leastPayer_26 rfl (x := nI i) rfl ?_
      refine gj_iconst (pc := 27) cx d_N_leastPayer_27 (v := nI 5) (by decide) ?_
      refine gj_imulN (pc := 28) cx d_N_leastPayer_28 ?_
      refine gj_aload_n (pc := 29) cx d_N_leastPayer_29 rfl (x := a 0) rfl ?_
      refine gj_get (pc := 30) (ci := 0) (C := R_N) (T := T_N) (N := 12) (v := .ref (a 2)) cx hK gj_rP in_N d_N_leastPayer_30 0 rfl rfl 7 (by decide) (in_WT wm_40) rfl ?_
      refine gj_iload_n (pc := 33) cx d_N_leastPayer_33 rfl (x := nI i) rfl ?_
      refine gj_ialdN (pc := 34) (i := i) (f := nCn u) cx hK gj_rP d_N_leastPayer_34 2 0 rfl rfl (by omega) (by decide) ?_
      have hv4 := hcn i
      refine gj_iaddN (pc := 35) cx d_N_leastPayer_35 ?_
      refine gj_lald (pc := 36) (i := (i * 5) + (nCn u i)) (f := nAc u) cx hK gj_rP d_N_leastPayer_36 6 1 rfl rfl (by omega) (by decide) ?_
      refine gj_callVRi (pc := 37) (As := [.int (nI i), .long (nAc u ((i * 5) + (nCn u i)))]) (rest := []) (v := bI (nVal u n i (nAc u ((i * 5) + (nCn u i))))) cx hK (c_N_isValid l D cI cJ a me n f u i (nAc u ((i * 5) + (nCn u i))) (by omega) (by omega) (by omega)) (cwV 2 cx.2.2.2.2 (good_V wm_206 wm_204 wm_205 wm_550 wm_3) rfl rfl rfl (by decide +kernel) ⟨Nat.le_of_ble_eq_true rfl, Nat.le_of_ble_eq_true rfl⟩) gj_rP 0 0 rfl rfl rfl rfl rfl (Nat.le_of_ble_eq_true rfl) d_N_leastPayer_37 ⟨Nat.zero_le _, Nat.zero_le _⟩ ?_
      refine gj_if_eqB (pc := 40) cx d_N_leastPayer_40 (tgt := 45) rfl (fun hb5 => ?_) (fun hb5 => ?_)
      · refine gj_iincN (pc := 45) cx d_N_leastPayer_45 (k := 1) (d := 1) (lo' := [(1, .int (nI (i + 1))), (0, .ref (a 0))]) rfl (by decide) (by decide) rfl ?_
        refine gj_goto (pc := 48) cx d_N_leastPayer_48 (tgt := 2) rfl ?_
        refine gj_pick (lo' := [(0, .ref (a 0)), (1, .int (nI (i + 1)))]) [1, 0] rfl ?_
        exact gj_eq rfl (rfl) rfl (rfl) (ihi (by omega) ((fstB_f (by omega) (by simp [nNext, hb1, hb3, hb5] <;> omega)).symm.trans qi))
      · refine gj_iload_n (pc := 43) cx d_N_leastPayer_43 rfl (x := nI i) rfl ?_
        exact gj_iretR (pc := 44) cx hr hlk d_N_leastPayer_44 (by have e : nLeast u n = i := qi.symm.trans (fstB_t (by omega) (by simp [nNext, hb1, hb3, hb5])); rw [e, if_neg (by omega)])

set_option maxRecDepth 100000 in
set_option maxHeartbeats 4000000 in
theorem c_N_pay (l : Launch) (D : va_G) (cI cJ : ClassId) (a : Nat → Nat) (me n f : Nat) (u : NS) (b : Nat) (pp : Int64) (hok : nOk u) (hb : b < 7) (hpy : payN pp < 7) (sz : Nat) : MWv l y_N_pay (wsM y_N_pay b_N_pay 4 none) { frames := 1, cells := 0, slots := 0, locals := 21 } D vwK (tyl cI cJ) (nW cI cJ a me n f u) (nW cI cJ a me n f (nPay u b pp)) sz [.ref (a 0), .int (nI b), .long pp] := by
  obtain ⟨hco, hfu, hsu, hcn, hfr⟩ := id hok
  refine gj_enterW (own := R_N) (by decide) rfl (Nat.le_of_ble_eq_true rfl) rfl rfl (fun p e s m below meth c cx hr hlk hK hsz => ?_)
  have hA : ∀ q, s.heap.size ≤ q → va_A (nW cI cJ a me n f u) sz q := fun q h => Or.inr (hsz ▸ h)
  refine gj_aload_n (pc := 0) cx d_N_pay_0 rfl (x := a 0) rfl ?_
  refine gj_get (pc := 1) (ci := 0) (C := R_N) (T := T_N) (N := 12) (v := .ref (a 2)) cx hK gj_wP in_N d_N_pay_1 0 rfl rfl 7 (by decide) (in_WT wm_40) rfl ?_
  refine gj_iload_n (pc := 4) cx d_N_pay_4 rfl (x := nI b) rfl ?_
  refine gj_dup2_11 (pc := 5) cx d_N_pay_5 rfl rfl ?_
  refine gj_ialdN (pc := 6) (i := b) (f := nCn u) cx hK gj_wP d_N_pay_6 2 0 rfl rfl (by omega) (by decide) ?_
  have hv1 := hcn b
  refine gj_iconst (pc := 7) cx d_N_pay_7 (v := nI 1) (by decide) ?_
  refine gj_iaddN (pc := 8) cx d_N_pay_8 ?_
  refine gj_iastN (pc := 9) (i := b) (f := nCn u) (x := (nCn u b) + 1) (ws' := nW cI cJ a me n f (nCo u, nFu u, nSu u, nSa u, va_up (nCn u) b ((nCn u b) + 1), nFr u, nBa u, nTo u, nAc u)) cx hK d_N_pay_9 2 0 rfl rfl (by omega) (by decide) rfl ?_
  refine gj_aload_n (pc := 10) cx d_N_pay_10 rfl (x := a 0) rfl ?_
  refine gj_get (pc := 11) (ci := 0) (C := R_N) (T := T_N) (N := 12) (v := .ref (a 4)) cx hK gj_wP in_N d_N_pay_11 0 rfl rfl 9 (by decide) (in_WT wm_42) rfl ?_
  refine gj_iload_n (pc := 14) cx d_N_pay_14 rfl (x := nI b) rfl ?_
  refine gj_dup2_11 (pc := 15) cx d_N_pay_15 rfl rfl ?_
  refine gj_lald (pc := 16) (i := b) (f := nBa u) cx hK gj_wP d_N_pay_16 4 1 rfl rfl (by omega) (by decide) ?_
  refine gj_lload_n (pc := 17) cx d_N_pay_17 rfl (x := pp) rfl ?_
  refine gj_callSRi (pc := 18) (As := [.long pp]) (rest := [.long (nBa u b), .int (nI b), .ref (a 4)]) (v := nI (amtN pp)) cx hK (c_P_amount l D (tyl cI cJ) pp ) (va_cwS 1 cx.2.2.2.2 (good_S wm_93 wm_91 wm_92 wm_7) rfl rfl rfl (by decide +kernel) ⟨Nat.le_of_ble_eq_true rfl, Nat.le_of_ble_eq_true rfl⟩) (fun _ _ _ => gj_P0) rfl rfl (Nat.le_of_ble_eq_true rfl) d_N_pay_18 ⟨Nat.zero_le _, Nat.zero_le _⟩ ?_
  have hv2 := amtN_lt pp
  refine gj_i2l (pc := 21) cx d_N_pay_21 rfl ?_
  refine gj_tol (y := lN (amtN pp)) (nI_l (by omega)) ?_
  refine gj_lsub (pc := 22) cx d_N_pay_22 ?_
  refine gj_last (pc := 23) (i := b) (f := nBa u) (x := (nBa u b) - (lN (amtN pp))) (ws' := nW cI cJ a me n f (nCo u, nFu u, nSu u, nSa u, va_up (nCn u) b ((nCn u b) + 1), nFr u, va_up (nBa u) b ((nBa u b) - (lN (amtN pp))), nTo u, nAc u)) cx hK d_N_pay_23 4 1 rfl rfl (by omega) (by decide) rfl ?_
  refine gj_aload_n (pc := 24) cx d_N_pay_24 rfl (x := a 0) rfl ?_
  refine gj_get (pc := 25) (ci := 0) (C := R_N) (T := T_N) (N := 12) (v := .ref (a 4)) cx hK gj_wP in_N d_N_pay_25 0 rfl rfl 9 (by decide) (in_WT wm_42) rfl ?_
  refine gj_lload_n (pc := 28) cx d_N_pay_28 rfl (x := pp) rfl ?_
  refine gj_callSRi (pc := 29) (As := [.long pp]) (rest := [.ref (a 4)]) (v := nI (payN pp)) cx hK (c_P_payee l D (tyl cI cJ) pp ) (va_cwS 1 cx.2.2.2.2 (good_S wm_103 wm_101 wm_102 wm_7) rfl rfl rfl (by decide +kernel) ⟨Nat.le_of_ble_eq_true rfl, Nat.le_of_ble_eq_true rfl⟩) (fun _ _ _ => gj_P0) rfl rfl (Nat.le_of_ble_eq_true rfl) d_N_pay_29 ⟨Nat.zero_le _, Nat.zero_le _⟩ ?_
  have hv3 := payN_lt pp
  refine gj_dup2_11 (pc := 32) cx d_N_pay_32 rfl rfl ?_
  refine gj_lald (pc := 33) (i := payN pp) (f := va_up (nBa u) b ((nBa u b) - (lN (amtN pp)))) cx hK gj_wP d_N_pay_33 4 1 rfl rfl (by omega) (by decide) ?_
  refine gj_lload_n (pc := 34) cx d_N_pay_34 rfl (x := pp) rfl ?_
  refine gj_callSRi (pc := 35) (As := [.long pp]) (rest := [.long ((va_up (nBa u) b ((nBa u b) - (lN (amtN pp)))) (payN pp)), .int (nI (payN pp)), .ref (a 4)]) (v := nI (amtN pp)) cx hK (c_P_amount l D (tyl cI cJ) pp ) (va_cwS 1 cx.2.2.2.2 (good_S wm_93 wm_91 wm_92 wm_7) rfl rfl rfl (by decide +kernel) ⟨Nat.le_of_ble_eq_true rfl, Nat.le_of_ble_eq_true rfl⟩) (fun _ _ _ => gj_P0) rfl rfl (Nat.le_of_ble_eq_true rfl) d_N_pay_35 ⟨Nat.zero_le _, Nat.zero_le _⟩ ?_
  have hv4 := amtN_lt pp
  refine gj_i2l (pc := 38) cx d_N_pay_38 rfl ?_
  refine gj_tol (y := lN (amtN pp)) (nI_l (by omega)) ?_
  refine gj_ladd (pc := 39) cx d_N_pay_39 ?_
  refine gj_last (pc := 40) (i := payN pp) (f := va_up (nBa u) b ((nBa u b) - (lN (amtN pp)))) (x := ((va_up (nBa u) b ((nBa u b) - (lN (amtN pp)))) (payN pp)) + (lN (amtN pp))) (ws' := nW cI cJ a me n f (nCo u, nFu u, nSu u, nSa u, va_up (nCn u) b ((nCn u b) + 1), nFr u, va_up (va_up (nBa u) b ((nBa u b) - (lN (amtN pp)))) (payN pp) (((va_up (nBa u) b ((nBa u b) - (lN (amtN pp)))) (payN pp)) + (lN (amtN pp))), nTo u, nAc u)) cx hK d_N_pay_40 4 1 rfl rfl (by omega) (by decide) rfl ?_
  exact gj_vretW (pc := 41) cx hr hlk d_N_pay_41 (rfl)

set_option maxRecDepth 100000 in
set_option maxHeartbeats 4000000 in
theorem c_N_applyWhatIsValid (l : Launch) (D : va_G) (cI cJ : ClassId) (a : Nat → Nat) (me n f : Nat) (u : NS)  (hok : nOk u) (hac : ∀ j, j < 35 → nAc u j ≠ -1 → payN (nAc u j) < n) (hn : n ≤ 7) (sz : Nat) : MWi l y_N_applyWhatIsValid (wsM y_N_applyWhatIsValid b_N_applyWhatIsValid 4 (some .int)) { frames := 3, cells := 0, slots := 0, locals := 67 } D vwK (tyl cI cJ) (nW cI cJ a me n f u) (nW cI cJ a me n f ((nApply n 35 0 u).2)) sz [.ref (a 0)] ((nApply n 35 0 u).1) := by
  obtain ⟨hco, hfu, hsu, hcn, hfr⟩ := id hok
  refine gj_enterW (own := R_N) (by decide) rfl (Nat.le_of_ble_eq_true rfl) rfl rfl (fun p e s m below meth c cx hr hlk hK hsz => ?_)
  have hA : ∀ q, s.heap.size ≤ q → va_A (nW cI cJ a me n f u) sz q := fun q h => Or.inr (hsz ▸ h)
  refine gj_iconst (pc := 0) cx d_N_applyWhatIsValid_0 (v := nI 0) (by decide) ?_
  refine gj_istore_n (pc := 1) cx d_N_applyWhatIsValid_1 rfl (lo' := [(1, .int (nI 0)), (0, .ref (a 0))]) (by decide) rfl ?_
  refine gj_pick (lo' := [(0, .ref (a 0)), (1, .int (nI 0))]) [1, 0] rfl ?_
  refine gj_forS (G := Gj p l e _ s m _ below meth c _ _ _ _ _) (σ := NS) (fun i x => nApply n (35 - i) i x = nApply n 35 0 u ∧ nOk x ∧ ∀ j, j < 35 → nAc x j ≠ -1 → payN (nAc x j) < n) 35 2 (fun i _ => [(0, .ref (a 0)), (1, .int (nI i))]) (fun _ x => nW cI cJ a me n f x) (fun i hi ih x hq => ?_) 0 (by omega) u ⟨rfl, hok, hac⟩
  obtain ⟨hE, hokx, hacx⟩ := hq
  obtain ⟨hcox, hfux, hsux, hcnx, hfrx⟩ := id hokx
  refine gj_iload_n (pc := 2) cx d_N_applyWhatIsValid_2 rfl (x := nI i) rfl ?_
  refine gj_bipush (pc := 3) cx d_N_applyWhatIsValid_3 (v := nI 35) (by decide) ?_
  refine gj_icmp_geN (pc := 5) cx d_N_applyWhatIsValid_5 (tgt := 78) rfl (by omega) (by omega) (fun hb1 => ?_) (fun hb1 => ?_)
  · refine gj_bipush (pc := 78) cx d_N_applyWhatIsValid_78 (v := nI 35) (by decide) ?_
    exact gj_iretW (pc := 80) cx hr hlk d_N_applyWhatIsValid_80 (by rw [← hE, show i = 35 from (by omega)]; rfl) (by rw [← hE, show i = 35 from (by omega)]; rfl)
  · refine gj_aload_n (pc := 8) cx d_N_applyWhatIsValid_8 rfl (x := a 0) rfl ?_
    refine gj_callVRi (pc := 9) (As := []) (rest := []) (v := if nLeast x n = n then -1 else nI (nLeast x n)) cx hK (c_N_leastPayer l D cI cJ a me n f x  (hokx) (by omega)) (cwV 0 cx.2.2.2.2 (good_V wm_203 wm_201 wm_202 wm_549 wm_3) rfl rfl rfl (by decide +kernel) ⟨Nat.le_of_ble_eq_true rfl, Nat.le_of_ble_eq_true rfl⟩) gj_wP 0 0 rfl rfl rfl rfl rfl (Nat.le_of_ble_eq_true rfl) d_N_applyWhatIsValid_9 ⟨Nat.zero_le _, Nat.zero_le _⟩ ?_
    by_cases hL : nLeast x n = n
    · refine gj_toi (y := (-1)) (if_pos hL) ?_
      refine gj_istore_n (pc := 12) cx d_N_applyWhatIsValid_12 rfl (lo' := [(2, .int (-1)), (0, .ref (a 0)), (1, .int (nI i))]) (by decide) rfl ?_
      refine gj_iload_n (pc := 13) cx d_N_applyWhatIsValid_13 rfl (x := (-1)) rfl ?_
      refine gj_iconst (pc := 14) cx d_N_applyWhatIsValid_14 (v := (-1)) (by decide) ?_
      refine gj_icmp_ne (pc := 15) cx d_N_applyWhatIsValid_15 (tgt := 20) rfl (fun hb2 => absurd hb2 (fun z => z rfl)) (fun hb2 => ?_)
      refine gj_iload_n (pc := 18) cx d_N_applyWhatIsValid_18 rfl (x := nI i) rfl ?_
      exact gj_iretW (pc := 19) cx hr hlk d_N_applyWhatIsValid_19 (by rw [← hE, nApply_end hL]) (by rw [← hE, nApply_end hL])
    · refine gj_toi (y := nI (nLeast x n)) (if_neg hL) ?_
      have hLn := nLeast_lt hL
      have hLs := nLeast_sat hL
      have hLc := nNext_cn hLs
      have hLa := nNext_ac hLs
      refine gj_istore_n (pc := 12) cx d_N_applyWhatIsValid_12 rfl (lo' := [(2, .int (nI (nLeast x n))), (0, .ref (a 0)), (1, .int (nI i))]) (by decide) rfl ?_
      refine gj_iload_n (pc := 13) cx d_N_applyWhatIsValid_13 rfl (x := nI (nLeast x n)) rfl ?_
      refine gj_iconst (pc := 14) cx d_N_applyWhatIsValid_14 (v := (-1)) (by decide) ?_
      refine gj_icmp_ne (pc := 15) cx d_N_applyWhatIsValid_15 (tgt := 20) rfl (fun hb3 => ?_) (fun hb3 => absurd hb3 (nI_m1 (by omega)))
      refine gj_iload_n (pc := 20) cx d_N_applyWhatIsValid_20 rfl (x := nI (nLeast x n)) rfl ?_
      refine gj_iconst (pc := 21) cx d_N_applyWhatIsValid_21 (v := nI 5) (by decide) ?_
      refine gj_imulN (pc := 22) cx d_N_applyWhatIsValid_22 ?_
      refine gj_aload_n (pc := 23) cx d_N_applyWhatIsValid_23 rfl (x := a 0) rfl ?_
      refine gj_get (pc := 24) (ci := 0) (C := R_N) (T := T_N) (N := 12) (v := .ref (a 2)) cx hK gj_wP in_N d_N_applyWhatIsValid_24 0 rfl rfl 7 (by decide) (in_WT wm_40) rfl ?_
      refine gj_iload_n (pc := 27) cx d_N_applyWhatIsValid_27 rfl (x := nI (nLeast x n)) rfl ?_
      refine gj_ialdN (pc := 28) (i := nLeast x n) (f := nCn x) cx hK gj_wP d_N_applyWhatIsValid_28 2 0 rfl rfl (by omega) (by decide) ?_
      have hv4 := hcnx (nLeast x n)
      refine gj_iaddN (pc := 29) cx d_N_applyWhatIsValid_29 ?_
      refine gj_istore_n (pc := 30) cx d_N_applyWhatIsValid_30 rfl (lo' := [(3, .int (nI (((nLeast x n) * 5) + (nCn x (nLeast x n))))), (2, .int (nI (nLeast x n))), (0, .ref (a 0)), (1, .int (nI i))]) (by decide) rfl ?_
      refine gj_aload_n (pc := 31) cx d_N_applyWhatIsValid_31 rfl (x := a 0) rfl ?_
      refine gj_iconst (pc := 32) cx d_N_applyWhatIsValid_32 (v := nI 3) (by decide) ?_
      refine gj_iload_n (pc := 33) cx d_N_applyWhatIsValid_33 rfl (x := nI (((nLeast x n) * 5) + (nCn x (nLeast x n)))) rfl ?_
      refine gj_callSRi (pc := 34) (As := [.int (nI 3), .int (nI (((nLeast x n) * 5) + (nCn x (nLeast x n))))]) (rest := [.ref (a 0)]) (v := nI (105 + (((nLeast x n) * 5) + (nCn x (nLeast x n))))) cx hK (c_T_at l D (tyl cI cJ) 3 (((nLeast x n) * 5) + (nCn x (nLeast x n))) ) (va_cwS 2 cx.2.2.2.2 (good_S wm_178 wm_176 wm_177 wm_6) rfl rfl rfl (by decide +kernel) ⟨Nat.le_of_ble_eq_true rfl, Nat.le_of_ble_eq_true rfl⟩) (fun _ _ _ => gj_P0) rfl rfl (Nat.le_of_ble_eq_true rfl) d_N_applyWhatIsValid_34 ⟨Nat.zero_le _, Nat.zero_le _⟩ ?_
      refine gj_aload_n (pc := 37) cx d_N_applyWhatIsValid_37 rfl (x := a 0) rfl ?_
      refine gj_get (pc := 38) (ci := 0) (C := R_N) (T := T_N) (N := 12) (v := .ref (a 6)) cx hK gj_wP in_N d_N_applyWhatIsValid_38 0 rfl rfl 11 (by decide) (in_WT wm_44) rfl ?_
      refine gj_iload_n (pc := 41) cx d_N_applyWhatIsValid_41 rfl (x := nI (((nLeast x n) * 5) + (nCn x (nLeast x n)))) rfl ?_
      refine gj_lald (pc := 42) (i := ((nLeast x n) * 5) + (nCn x (nLeast x n))) (f := nAc x) cx hK gj_wP d_N_applyWhatIsValid_42 6 1 rfl rfl (by omega) (by decide) ?_
      refine gj_callVWi (pc := 43) (As := [.int (nI (105 + (((nLeast x n) * 5) + (nCn x (nLeast x n))))), .long (nAc x (((nLeast x n) * 5) + (nCn x (nLeast x n))))]) (rest := []) (v := bI (nWrB x)) (ws' := nW cI cJ a me n f (nWr x (105 + (((nLeast x n) * 5) + (nCn x (nLeast x n)))) (nAc x (((nLeast x n) * 5) + (nCn x (nLeast x n)))))) cx hK hA (fun sz => c_N_write l D cI cJ a me n f x (105 + (((nLeast x n) * 5) + (nCn x (nLeast x n)))) (nAc x (((nLeast x n) * 5) + (nCn x (nLeast x n)))) (hokx) (by omega) sz) (cwV 2 cx.2.2.2.2 (good_V wm_110 wm_108 wm_109 wm_537 wm_3) rfl rfl rfl (by decide +kernel) ⟨Nat.le_of_ble_eq_true rfl, Nat.le_of_ble_eq_true rfl⟩) gj_J.self 0 0 rfl rfl rfl rfl rfl (Nat.le_of_ble_eq_true rfl) d_N_applyWhatIsValid_43 ⟨Nat.zero_le _, Nat.zero_le _⟩ ?_
      refine gj_if_neB (pc := 46) cx d_N_applyWhatIsValid_46 (tgt := 52) rfl (fun hb5 => ?_) (fun hb5 => ?_)
      · refine gj_eq (w' := nW cI cJ a me n f (nCo x, nFu x - 1, nSu x, va_up (nSa x) (105 + (nLeast x n * 5 + nCn x (nLeast x n))) (nAc x (nLeast x n * 5 + nCn x (nLeast x n))), nCn x, nFr x, nBa x, nTo x, nAc x)) rfl rfl rfl (by rw [nWr_t hb5]) ?_
        refine gj_aload_n (pc := 52) cx d_N_applyWhatIsValid_52 rfl (x := a 0) rfl ?_
        refine gj_iload_n (pc := 53) cx d_N_applyWhatIsValid_53 rfl (x := nI (nLeast x n)) rfl ?_
        refine gj_aload_n (pc := 54) cx d_N_applyWhatIsValid_54 rfl (x := a 0) rfl ?_
        refine gj_get (pc := 55) (ci := 0) (C := R_N) (T := T_N) (N := 12) (v := .ref (a 6)) cx hK gj_wP in_N d_N_applyWhatIsValid_55 0 rfl rfl 11 (by decide) (in_WT wm_44) rfl ?_
        refine gj_iload_n (pc := 58) cx d_N_applyWhatIsValid_58 rfl (x := nI (((nLeast x n) * 5) + (nCn x (nLeast x n)))) rfl ?_
        refine gj_lald (pc := 59) (i := ((nLeast x n) * 5) + (nCn x (nLeast x n))) (f := nAc x) cx hK gj_wP d_N_applyWhatIsValid_59 6 1 rfl rfl (by omega) (by decide) ?_
        refine gj_callVWv (pc := 60) (As := [.int (nI (nLeast x n)), .long (nAc x (((nLeast x n) * 5) + (nCn x (nLeast x n))))]) (rest := []) (ws' := nW cI cJ a me n f (nPay (nCo x, nFu x - 1, nSu x, va_up (nSa x) (105 + (nLeast x n * 5 + nCn x (nLeast x n))) (nAc x (nLeast x n * 5 + nCn x (nLeast x n))), nCn x, nFr x, nBa x, nTo x, nAc x) (nLeast x n) (nAc x (((nLeast x n) * 5) + (nCn x (nLeast x n)))))) cx hK hA (fun sz => c_N_pay l D cI cJ a me n f (nCo x, nFu x - 1, nSu x, va_up (nSa x) (105 + (nLeast x n * 5 + nCn x (nLeast x n))) (nAc x (nLeast x n * 5 + nCn x (nLeast x n))), nCn x, nFr x, nBa x, nTo x, nAc x) (nLeast x n) (nAc x (((nLeast x n) * 5) + (nCn x (nLeast x n)))) (⟨hcox, by show nFu x - 1 ≤ 9; omega, hsux, hcnx, hfrx⟩) (by omega) (by have := hacx (nLeast x n * 5 + nCn x (nLeast x n)) (by omega) hLa; omega) sz) (cwV 2 cx.2.2.2.2 (good_V wm_210 wm_208 wm_209 wm_551 wm_3) rfl rfl rfl (by decide +kernel) ⟨Nat.le_of_ble_eq_true rfl, Nat.le_of_ble_eq_true rfl⟩) gj_J.self 0 0 rfl rfl rfl rfl rfl (Nat.le_of_ble_eq_true rfl) d_N_applyWhatIsValid_60 ⟨Nat.zero_le _, Nat.zero_le _⟩ ?_
        refine gj_aload_n (pc := 63) cx d_N_applyWhatIsValid_63 rfl (x := a 0) rfl ?_
        refine gj_get (pc := 64) (ci := 0) (C := R_N) (T := T_N) (N := 12) (v := .ref (a 6)) cx hK gj_wP in_N d_N_applyWhatIsValid_64 0 rfl rfl 11 (by decide) (in_WT wm_44) rfl ?_
        refine gj_iload_n (pc := 67) cx d_N_applyWhatIsValid_67 rfl (x := nI (((nLeast x n) * 5) + (nCn x (nLeast x n)))) rfl ?_
        refine gj_ldc2 (pc := 68) cx d_N_applyWhatIsValid_68 (v := (-1)) (in_WT wm_29) ?_
        refine gj_last (pc := 71) (i := ((nLeast x n) * 5) + (nCn x (nLeast x n))) (f := nAc (nPay (nCo x, nFu x - 1, nSu x, va_up (nSa x) (105 + (nLeast x n * 5 + nCn x (nLeast x n))) (nAc x (nLeast x n * 5 + nCn x (nLeast x n))), nCn x, nFr x, nBa x, nTo x, nAc x) (nLeast x n) (nAc x (((nLeast x n) * 5) + (nCn x (nLeast x n)))))) (x := (-1)) (ws' := nW cI cJ a me n f (nCo (nPay (nCo x, nFu x - 1, nSu x, va_up (nSa x) (105 + (nLeast x n * 5 + nCn x (nLeast x n))) (nAc x (nLeast x n * 5 + nCn x (nLeast x n))), nCn x, nFr x, nBa x, nTo x, nAc x) (nLeast x n) (nAc x (((nLeast x n) * 5) + (nCn x (nLeast x n))))), nFu (nPay (nCo x, nFu x - 1, nSu x, va_up (nSa x) (105 + (nLeast x n * 5 + nCn x (nLeast x n))) (nAc x (nLeast x n * 5 + nCn x (nLeast x n))), nCn x, nFr x, nBa x, nTo x, nAc x) (nLeast x n) (nAc x (((nLeast x n) * 5) + (nCn x (nLeast x n))))), nSu (nPay (nCo x, nFu x - 1, nSu x, va_up (nSa x) (105 + (nLeast x n * 5 + nCn x (nLeast x n))) (nAc x (nLeast x n * 5 + nCn x (nLeast x n))), nCn x, nFr x, nBa x, nTo x, nAc x) (nLeast x n) (nAc x (((nLeast x n) * 5) + (nCn x (nLeast x n))))), nSa (nPay (nCo x, nFu x - 1, nSu x, va_up (nSa x) (105 + (nLeast x n * 5 + nCn x (nLeast x n))) (nAc x (nLeast x n * 5 + nCn x (nLeast x n))), nCn x, nFr x, nBa x, nTo x, nAc x) (nLeast x n) (nAc x (((nLeast x n) * 5) + (nCn x (nLeast x n))))), nCn (nPay (nCo x, nFu x - 1, nSu x, va_up (nSa x) (105 + (nLeast x n * 5 + nCn x (nLeast x n))) (nAc x (nLeast x n * 5 + nCn x (nLeast x n))), nCn x, nFr x, nBa x, nTo x, nAc x) (nLeast x n) (nAc x (((nLeast x n) * 5) + (nCn x (nLeast x n))))), nFr (nPay (nCo x, nFu x - 1, nSu x, va_up (nSa x) (105 + (nLeast x n * 5 + nCn x (nLeast x n))) (nAc x (nLeast x n * 5 + nCn x (nLeast x n))), nCn x, nFr x, nBa x, nTo x, nAc x) (nLeast x n) (nAc x (((nLeast x n) * 5) + (nCn x (nLeast x n))))), nBa (nPay (nCo x, nFu x - 1, nSu x, va_up (nSa x) (105 + (nLeast x n * 5 + nCn x (nLeast x n))) (nAc x (nLeast x n * 5 + nCn x (nLeast x n))), nCn x, nFr x, nBa x, nTo x, nAc x) (nLeast x n) (nAc x (((nLeast x n) * 5) + (nCn x (nLeast x n))))), nTo (nPay (nCo x, nFu x - 1, nSu x, va_up (nSa x) (105 + (nLeast x n * 5 + nCn x (nLeast x n))) (nAc x (nLeast x n * 5 + nCn x (nLeast x n))), nCn x, nFr x, nBa x, nTo x, nAc x) (nLeast x n) (nAc x (((nLeast x n) * 5) + (nCn x (nLeast x n))))), va_up (nAc (nPay (nCo x, nFu x - 1, nSu x, va_up (nSa x) (105 + (nLeast x n * 5 + nCn x (nLeast x n))) (nAc x (nLeast x n * 5 + nCn x (nLeast x n))), nCn x, nFr x, nBa x, nTo x, nAc x) (nLeast x n) (nAc x (((nLeast x n) * 5) + (nCn x (nLeast x n)))))) (((nLeast x n) * 5) + (nCn x (nLeast x n))) (-1))) cx hK d_N_applyWhatIsValid_71 6 1 rfl rfl (by omega) (by decide) rfl ?_
        refine gj_iincN (pc := 72) cx d_N_applyWhatIsValid_72 (k := 3) (d := 1) (lo' := [(1, .int (nI (i + 1))), (3, .int (nI (((nLeast x n) * 5) + (nCn x (nLeast x n))))), (2, .int (nI (nLeast x n))), (0, .ref (a 0))]) rfl (by decide) (by decide) rfl ?_
        refine gj_goto (pc := 75) cx d_N_applyWhatIsValid_75 (tgt := 2) rfl ?_
        refine gj_pick (lo' := [(0, .ref (a 0)), (1, .int (nI (i + 1)))]) [3, 0] rfl ?_
        exact gj_eq rfl rfl rfl (by rw [nStep, nWr_t hb5] <;> rfl) (ih (by omega) (nStep x n) ⟨(nApply_step (by omega) hL (nWrB_t hb5)).symm.trans hE, nOk_step hokx hL (nWrB_t hb5), nAc_step hacx (nWrB_t hb5)⟩)
      · refine gj_bipush (pc := 49) cx d_N_applyWhatIsValid_49 (v := (-7)) (by decide) ?_
        exact gj_iretW (pc := 51) cx hr hlk d_N_applyWhatIsValid_51 (by rw [← hE, nApply_fall (by omega) hL (nWrB_f hb5)]) (by rw [← hE, nApply_fall (by omega) hL (nWrB_f hb5), nWr_f hb5])

set_option maxRecDepth 100000 in
set_option maxHeartbeats 4000000 in
theorem c_N_forget (l : Launch) (D : va_G) (cI cJ : ClassId) (a : Nat → Nat) (me n f : Nat) (u : NS) (i : Nat) (hn : n ≤ 7) (hi : i < 35) (sz : Nat) : MWv l y_N_forget (wsM y_N_forget b_N_forget 4 none) { frames := 1, cells := 0, slots := 0, locals := 21 } D vwK (tyl cI cJ) (nW cI cJ a me n f u) (nW cI cJ a me n f (nForget u n i)) sz [.ref (a 0), .int (nI i)] := by
  refine gj_enterW (own := R_N) (by decide) rfl (Nat.le_of_ble_eq_true rfl) rfl rfl (fun p e s m below meth c cx hr hlk hK hsz => ?_)
  have hA : ∀ q, s.heap.size ≤ q → va_A (nW cI cJ a me n f u) sz q := fun q h => Or.inr (hsz ▸ h)
  refine gj_iconst (pc := 0) cx d_N_forget_0 (v := nI 0) (by decide) ?_
  refine gj_istore_n (pc := 1) cx d_N_forget_1 rfl (lo' := [(2, .int (nI 0)), (0, .ref (a 0)), (1, .int (nI i))]) (by decide) rfl ?_
  refine gj_eq (w' := nW cI cJ a me n f (nCo u, nFu u, nSu u, fgS u i 0, nCn u, nFr u, nBa u, nTo u, nAc u)) rfl rfl rfl (by rw [fgS_0]) ?_
  refine gj_pick (lo' := [(0, .ref (a 0)), (1, .int (nI i)), (2, .int (nI 0))]) [1, 2, 0] rfl ?_
  refine gj_forG (G := Gj p l e _ s m _ below meth c _ _ _ _ _) 3 2 (fun k => [(0, .ref (a 0)), (1, .int (nI i)), (2, .int (nI k))]) (fun k => nW cI cJ a me n f (nCo u, nFu u, nSu u, fgS u i k, nCn u, nFr u, nBa u, nTo u, nAc u)) (fun k hk ihk => ?_) 0 (by omega)
  refine gj_iload_n (pc := 2) cx d_N_forget_2 rfl (x := nI k) rfl ?_
  refine gj_iconst (pc := 3) cx d_N_forget_3 (v := nI 2) (by decide) ?_
  refine gj_icmp_gtN (pc := 4) cx d_N_forget_4 (tgt := 26) rfl (by omega) (by omega) (fun hb1 => ?_) (fun hb1 => ?_)
  · obtain rfl : k = 3 := by omega
    refine gj_iconst (pc := 26) cx d_N_forget_26 (v := nI 1) (by decide) ?_
    refine gj_istore_n (pc := 27) cx d_N_forget_27 rfl (lo' := [(2, .int (nI 1)), (0, .ref (a 0)), (1, .int (nI i))]) (by decide) rfl ?_
    refine gj_eq (w' := nW cI cJ a me n f (nCo u, nFu u, nSu u, fgS u i 3, nCn u, nFr u, nBa u, fgT u n i 1 0, nAc u)) rfl rfl rfl (by rw [fgT_0]) ?_
    refine gj_pick (lo' := [(0, .ref (a 0)), (1, .int (nI i)), (2, .int (nI 1))]) [1, 2, 0] rfl ?_
    refine gj_forH (G := Gj p l e _ s m _ below meth c _ _ _ _ _) (fun g => 1 ≤ g) 4 28 (fun g => [(0, .ref (a 0)), (1, .int (nI i)), (2, .int (nI g))]) (fun g => nW cI cJ a me n f (nCo u, nFu u, nSu u, fgS u i 3, nCn u, nFr u, nBa u, fgT u n i g 0, nAc u)) (fun g hg ihg qg => ?_) 1 (by omega) (by omega)
    refine gj_iload_n (pc := 28) cx d_N_forget_28 rfl (x := nI g) rfl ?_
    refine gj_iconst (pc := 29) cx d_N_forget_29 (v := nI 3) (by decide) ?_
    refine gj_icmp_gtN (pc := 30) cx d_N_forget_30 (tgt := 73) rfl (by omega) (by omega) (fun hb2 => ?_) (fun hb2 => ?_)
    · exact gj_vretW (pc := 73) cx hr hlk d_N_forget_73 (by rw [show g = 4 from (by omega)]; rfl)
    · refine gj_iconst (pc := 33) cx d_N_forget_33 (v := nI 0) (by decide) ?_
      refine gj_istore_n (pc := 34) cx d_N_forget_34 rfl (lo' := [(3, .int (nI 0)), (0, .ref (a 0)), (1, .int (nI i)), (2, .int (nI g))]) (by decide) rfl ?_
      refine gj_pick (lo' := [(0, .ref (a 0)), (1, .int (nI i)), (2, .int (nI g)), (3, .int (nI 0))]) [1, 2, 3, 0] rfl ?_
      refine gj_forG (G := Gj p l e _ s m _ below meth c _ _ _ _ _) n 35 (fun y => [(0, .ref (a 0)), (1, .int (nI i)), (2, .int (nI g)), (3, .int (nI y))]) (fun y => nW cI cJ a me n f (nCo u, nFu u, nSu u, fgS u i 3, nCn u, nFr u, nBa u, fgT u n i g y, nAc u)) (fun y hy ihy => ?_) 0 (by omega)
      refine gj_iload_n (pc := 35) cx d_N_forget_35 rfl (x := nI y) rfl ?_
      refine gj_aload_n (pc := 36) cx d_N_forget_36 rfl (x := a 0) rfl ?_
      refine gj_get (pc := 37) (ci := 0) (C := R_N) (T := T_N) (N := 12) (v := .int (nI n)) cx hK gj_wP in_N d_N_forget_37 0 rfl rfl 1 (by decide) (in_WT wm_34) rfl ?_
      refine gj_icmp_geN (pc := 40) cx d_N_forget_40 (tgt := 67) rfl (by omega) (by omega) (fun hb3 => ?_) (fun hb3 => ?_)
      · refine gj_iincN (pc := 67) cx d_N_forget_67 (k := 2) (d := 1) (lo' := [(2, .int (nI (g + 1))), (0, .ref (a 0)), (1, .int (nI i)), (3, .int (nI y))]) rfl (by decide) (by decide) rfl ?_
        refine gj_goto (pc := 70) cx d_N_forget_70 (tgt := 28) rfl ?_
        refine gj_pick (lo' := [(0, .ref (a 0)), (1, .int (nI i)), (2, .int (nI (g + 1)))]) [1, 2, 0] rfl ?_
        exact gj_eq rfl (rfl) rfl (by rw [← fgT_row, show y = n from (by omega)]) (ihg (by omega) (by omega))
      · refine gj_aload_n (pc := 43) cx d_N_forget_43 rfl (x := a 0) rfl ?_
        refine gj_get (pc := 44) (ci := 0) (C := R_N) (T := T_N) (N := 12) (v := .ref (a 5)) cx hK gj_wP in_N d_N_forget_44 0 rfl rfl 10 (by decide) (in_WT wm_43) rfl ?_
        refine gj_iload_n (pc := 47) cx d_N_forget_47 rfl (x := nI g) rfl ?_
        refine gj_iload_n (pc := 48) cx d_N_forget_48 rfl (x := nI i) rfl ?_
        refine gj_callSRi (pc := 49) (As := [.int (nI g), .int (nI i)]) (rest := [.ref (a 5)]) (v := nI (g * 35 + i)) cx hK (c_T_at l D (tyl cI cJ) g i ) (va_cwS 2 cx.2.2.2.2 (good_S wm_178 wm_176 wm_177 wm_6) rfl rfl rfl (by decide +kernel) ⟨Nat.le_of_ble_eq_true rfl, Nat.le_of_ble_eq_true rfl⟩) (fun _ _ _ => gj_P0) rfl rfl (Nat.le_of_ble_eq_true rfl) d_N_forget_49 ⟨Nat.zero_le _, Nat.zero_le _⟩ ?_
        refine gj_bipush (pc := 52) cx d_N_forget_52 (v := nI 7) (by decide) ?_
        refine gj_imulN (pc := 54) cx d_N_forget_54 ?_
        refine gj_iload_n (pc := 55) cx d_N_forget_55 rfl (x := nI y) rfl ?_
        refine gj_iaddN (pc := 56) cx d_N_forget_56 ?_
        refine gj_ldc2 (pc := 57) cx d_N_forget_57 (v := (-1)) (in_WT wm_29) ?_
        refine gj_last (pc := 60) (i := ((g * 35 + i) * 7) + y) (f := fgT u n i g y) (x := (-1)) (ws' := nW cI cJ a me n f (nCo u, nFu u, nSu u, fgS u i 3, nCn u, nFr u, nBa u, va_up (fgT u n i g y) (((g * 35 + i) * 7) + y) (-1), nAc u)) cx hK d_N_forget_60 5 1 rfl rfl (by omega) (by decide) rfl ?_
        refine gj_iincN (pc := 61) cx d_N_forget_61 (k := 3) (d := 1) (lo' := [(3, .int (nI (y + 1))), (0, .ref (a 0)), (1, .int (nI i)), (2, .int (nI g))]) rfl (by decide) (by decide) rfl ?_
        refine gj_goto (pc := 64) cx d_N_forget_64 (tgt := 35) rfl ?_
        refine gj_pick (lo' := [(0, .ref (a 0)), (1, .int (nI i)), (2, .int (nI g)), (3, .int (nI (y + 1)))]) [1, 2, 3, 0] rfl ?_
        exact gj_eq rfl (rfl) rfl (by rw [fgT_up hi (by omega) (by omega)]) (ihy (by omega))
  · refine gj_aload_n (pc := 7) cx d_N_forget_7 rfl (x := a 0) rfl ?_
    refine gj_get (pc := 8) (ci := 0) (C := R_N) (T := T_N) (N := 12) (v := .ref (a 1)) cx hK gj_wP in_N d_N_forget_8 0 rfl rfl 6 (by decide) (in_WT wm_39) rfl ?_
    refine gj_iload_n (pc := 11) cx d_N_forget_11 rfl (x := nI k) rfl ?_
    refine gj_iload_n (pc := 12) cx d_N_forget_12 rfl (x := nI i) rfl ?_
    refine gj_callSRi (pc := 13) (As := [.int (nI k), .int (nI i)]) (rest := [.ref (a 1)]) (v := nI (k * 35 + i)) cx hK (c_T_at l D (tyl cI cJ) k i ) (va_cwS 2 cx.2.2.2.2 (good_S wm_178 wm_176 wm_177 wm_6) rfl rfl rfl (by decide +kernel) ⟨Nat.le_of_ble_eq_true rfl, Nat.le_of_ble_eq_true rfl⟩) (fun _ _ _ => gj_P0) rfl rfl (Nat.le_of_ble_eq_true rfl) d_N_forget_13 ⟨Nat.zero_le _, Nat.zero_le _⟩ ?_
    refine gj_ldc2 (pc := 16) cx d_N_forget_16 (v := (-1)) (in_WT wm_29) ?_
    refine gj_last (pc := 19) (i := k * 35 + i) (f := fgS u i k) (x := (-1)) (ws' := nW cI cJ a me n f (nCo u, nFu u, nSu u, va_up (fgS u i k) (k * 35 + i) (-1), nCn u, nFr u, nBa u, nTo u, nAc u)) cx hK d_N_forget_19 1 1 rfl rfl (by omega) (by decide) rfl ?_
    refine gj_iincN (pc := 20) cx d_N_forget_20 (k := 2) (d := 1) (lo' := [(2, .int (nI (k + 1))), (0, .ref (a 0)), (1, .int (nI i))]) rfl (by decide) (by decide) rfl ?_
    refine gj_goto (pc := 23) cx d_N_forget_23 (tgt := 2) rfl ?_
    refine gj_pick (lo' := [(0, .ref (a 0)), (1, .int (nI i)), (2, .int (nI (k + 1)))]) [1, 2, 0] rfl ?_
    exact gj_eq rfl (rfl) rfl (by rw [fgS_up hi]) (ihk (by omega))
