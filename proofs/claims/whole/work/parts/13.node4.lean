/-! Contracts of Node, fourth part, laid by wip/gen/m_node.py -/
set_option maxRecDepth 100000 in
set_option maxHeartbeats 4000000 in
theorem c_N_spendable (l : Launch) (D : va_G) (cI cJ : ClassId) (a : Nat → Nat) (me n f : Nat) (u : NS)  (hok : nOk u) (hme : me < 7) : MRl l y_N_spendable (wsM y_N_spendable b_N_spendable 4 (some .long)) { frames := 1, cells := 0, slots := 0, locals := 22 } D vwK (tyl cI cJ) (nW cI cJ a me n f u) [.ref (a 0)] (nSpend u me) := by
  obtain ⟨hco, hfu, hsu, hcn, hfr⟩ := id hok
  refine gj_enterR (own := R_N) (by decide) rfl (Nat.le_of_ble_eq_true rfl) rfl rfl (fun p e s m below meth c cx hr hlk hK => ?_)
  refine gj_aload_n (pc := 0) cx d_N_spendable_0 rfl (x := a 0) rfl ?_
  refine gj_get (pc := 1) (ci := 0) (C := R_N) (T := T_N) (N := 12) (v := .ref (a 4)) cx hK gj_rP in_N d_N_spendable_1 0 rfl rfl 9 (by decide) (in_WT wm_42) rfl ?_
  refine gj_aload_n (pc := 4) cx d_N_spendable_4 rfl (x := a 0) rfl ?_
  refine gj_get (pc := 5) (ci := 0) (C := R_N) (T := T_N) (N := 12) (v := .int (nI me)) cx hK gj_rP in_N d_N_spendable_5 0 rfl rfl 0 (by decide) (in_WT wm_33) rfl ?_
  refine gj_lald (pc := 8) (i := me) (f := nBa u) cx hK gj_rP d_N_spendable_8 4 1 rfl rfl (by omega) (by decide) ?_
  refine gj_lstore_n (pc := 9) cx d_N_spendable_9 rfl (lo' := [(1, .long (nBa u me)), (0, .ref (a 0))]) (by decide) rfl ?_
  refine gj_aload_n (pc := 10) cx d_N_spendable_10 rfl (x := a 0) rfl ?_
  refine gj_get (pc := 11) (ci := 0) (C := R_N) (T := T_N) (N := 12) (v := .ref (a 2)) cx hK gj_rP in_N d_N_spendable_11 0 rfl rfl 7 (by decide) (in_WT wm_40) rfl ?_
  refine gj_aload_n (pc := 14) cx d_N_spendable_14 rfl (x := a 0) rfl ?_
  refine gj_get (pc := 15) (ci := 0) (C := R_N) (T := T_N) (N := 12) (v := .int (nI me)) cx hK gj_rP in_N d_N_spendable_15 0 rfl rfl 0 (by decide) (in_WT wm_33) rfl ?_
  refine gj_ialdN (pc := 18) (i := me) (f := nCn u) cx hK gj_rP d_N_spendable_18 2 0 rfl rfl (by omega) (by decide) ?_
  have hv1 := hcn me
  refine gj_iconst (pc := 19) cx d_N_spendable_19 (v := nI 1) (by decide) ?_
  refine gj_iaddN (pc := 20) cx d_N_spendable_20 ?_
  refine gj_istore_n (pc := 21) cx d_N_spendable_21 rfl (lo' := [(3, .int (nI ((nCn u me) + 1))), (1, .long (nBa u me)), (0, .ref (a 0))]) (by decide) rfl ?_
  refine gj_pick (lo' := [(0, .ref (a 0)), (1, .long (nBa u me)), (3, .int (nI ((nCn u me) + 1)))]) [2, 1, 0] rfl ?_
  refine gj_forG (G := Gj p l e _ s m _ below meth c _ _ _ _ _) (nSu u - nCn u me) 22 (fun j => [(0, .ref (a 0)), (1, .long (nLeft u me (nCn u me) j)), (3, .int (nI (nCn u me + 1 + j)))]) (fun j => nW cI cJ a me n f u) (fun j hj ihj => ?_) 0 (by omega)
  refine gj_iload_n (pc := 22) cx d_N_spendable_22 rfl (x := nI (nCn u me + 1 + j)) rfl ?_
  refine gj_aload_n (pc := 23) cx d_N_spendable_23 rfl (x := a 0) rfl ?_
  refine gj_get (pc := 24) (ci := 0) (C := R_N) (T := T_N) (N := 12) (v := .int (nI (nSu u))) cx hK gj_rP in_N d_N_spendable_24 0 rfl rfl 5 (by decide) (in_WT wm_38) rfl ?_
  refine gj_icmp_gtN (pc := 27) cx d_N_spendable_27 (tgt := 57) rfl (by omega) (by omega) (fun hb2 => ?_) (fun hb2 => ?_)
  · refine gj_lload_n (pc := 57) cx d_N_spendable_57 rfl (x := nLeft u me (nCn u me) j) rfl ?_
    exact gj_lretR (pc := 58) cx hr hlk d_N_spendable_58 (by rw [show j = nSu u - nCn u me from (by omega)]; rfl)
  · refine gj_lload_n (pc := 30) cx d_N_spendable_30 rfl (x := nLeft u me (nCn u me) j) rfl ?_
    refine gj_aload_n (pc := 31) cx d_N_spendable_31 rfl (x := a 0) rfl ?_
    refine gj_get (pc := 32) (ci := 0) (C := R_N) (T := T_N) (N := 12) (v := .ref (a 1)) cx hK gj_rP in_N d_N_spendable_32 0 rfl rfl 6 (by decide) (in_WT wm_39) rfl ?_
    refine gj_iconst (pc := 35) cx d_N_spendable_35 (v := nI 0) (by decide) ?_
    refine gj_aload_n (pc := 36) cx d_N_spendable_36 rfl (x := a 0) rfl ?_
    refine gj_get (pc := 37) (ci := 0) (C := R_N) (T := T_N) (N := 12) (v := .int (nI me)) cx hK gj_rP in_N d_N_spendable_37 0 rfl rfl 0 (by decide) (in_WT wm_33) rfl ?_
    refine gj_iload_n (pc := 40) cx d_N_spendable_40 rfl (x := nI (nCn u me + 1 + j)) rfl ?_
    refine gj_callSRi (pc := 41) (As := [.int (nI 0), .int (nI me), .int (nI (nCn u me + 1 + j))]) (rest := [.ref (a 1), .long (nLeft u me (nCn u me) j)]) (v := nI ((0 + me) * 5 + (nCn u me + 1 + j) - 1)) cx hK (c_T_of l D (tyl cI cJ) 0 me (nCn u me + 1 + j) (by omega)) (va_cwS 3 cx.2.2.2.2 (good_S wm_90 wm_88 wm_89 wm_6) rfl rfl rfl (by decide +kernel) ⟨Nat.le_of_ble_eq_true rfl, Nat.le_of_ble_eq_true rfl⟩) (fun _ _ _ => gj_P0) rfl rfl (Nat.le_of_ble_eq_true rfl) d_N_spendable_41 ⟨Nat.zero_le _, Nat.zero_le _⟩ ?_
    refine gj_toi (y := nI (me * 5 + (nCn u me + j))) (congrArg nI (by omega)) ?_
    refine gj_lald (pc := 44) (i := me * 5 + (nCn u me + j)) (f := nSa u) cx hK gj_rP d_N_spendable_44 1 1 rfl rfl (by omega) (by decide) ?_
    refine gj_callSRi (pc := 45) (As := [.long (nSa u (me * 5 + (nCn u me + j)))]) (rest := [.long (nLeft u me (nCn u me) j)]) (v := nI (amtN (nSa u (me * 5 + (nCn u me + j))))) cx hK (c_P_amount l D (tyl cI cJ) (nSa u (me * 5 + (nCn u me + j))) ) (va_cwS 1 cx.2.2.2.2 (good_S wm_93 wm_91 wm_92 wm_7) rfl rfl rfl (by decide +kernel) ⟨Nat.le_of_ble_eq_true rfl, Nat.le_of_ble_eq_true rfl⟩) (fun _ _ _ => gj_P0) rfl rfl (Nat.le_of_ble_eq_true rfl) d_N_spendable_45 ⟨Nat.zero_le _, Nat.zero_le _⟩ ?_
    have hv3 := amtN_lt (nSa u (me * 5 + (nCn u me + j)))
    refine gj_i2l (pc := 48) cx d_N_spendable_48 rfl ?_
    refine gj_tol (y := lN (amtN (nSa u (me * 5 + (nCn u me + j))))) (nI_l (by omega)) ?_
    refine gj_lsub (pc := 49) cx d_N_spendable_49 ?_
    refine gj_lstore_n (pc := 50) cx d_N_spendable_50 rfl (lo' := [(1, .long ((nLeft u me (nCn u me) j) - (lN (amtN (nSa u (me * 5 + (nCn u me + j))))))), (0, .ref (a 0)), (3, .int (nI (nCn u me + 1 + j)))]) (by decide) rfl ?_
    refine gj_iincN (pc := 51) cx d_N_spendable_51 (k := 2) (d := 1) (lo' := [(3, .int (nI ((nCn u me + 1 + j) + 1))), (1, .long ((nLeft u me (nCn u me) j) - (lN (amtN (nSa u (me * 5 + (nCn u me + j))))))), (0, .ref (a 0))]) rfl (by decide) (by decide) rfl ?_
    refine gj_goto (pc := 54) cx d_N_spendable_54 (tgt := 22) rfl ?_
    refine gj_pick (lo' := [(0, .ref (a 0)), (1, .long ((nLeft u me (nCn u me) j) - (lN (amtN (nSa u (me * 5 + (nCn u me + j))))))), (3, .int (nI ((nCn u me + 1 + j) + 1)))]) [2, 1, 0] rfl ?_
    exact gj_eq rfl (rfl) rfl (rfl) (ihj (by omega))

set_option maxRecDepth 100000 in
set_option maxHeartbeats 4000000 in
theorem c_N_lastPaymentBy (l : Launch) (D : va_G) (cI cJ : ClassId) (a : Nat → Nat) (me n f : Nat) (u : NS) (b : Nat) (hok : nOk u) (hme : me < 7) (hb : b < 7) : MRi l y_N_lastPaymentBy (wsM y_N_lastPaymentBy b_N_lastPaymentBy 3 (some .int)) { frames := 1, cells := 0, slots := 0, locals := 22 } D vwK (tyl cI cJ) (nW cI cJ a me n f u) [.ref (a 0), .int (nI b)] (nI (nLast u me b (nCn u b))) := by
  obtain ⟨hco, hfu, hsu, hcn, hfr⟩ := id hok
  refine gj_enterR (own := R_N) (by decide) rfl (Nat.le_of_ble_eq_true rfl) rfl rfl (fun p e s m below meth c cx hr hlk hK => ?_)
  refine gj_aload_n (pc := 0) cx d_N_lastPaymentBy_0 rfl (x := a 0) rfl ?_
  refine gj_get (pc := 1) (ci := 0) (C := R_N) (T := T_N) (N := 12) (v := .ref (a 2)) cx hK gj_rP in_N d_N_lastPaymentBy_1 0 rfl rfl 7 (by decide) (in_WT wm_40) rfl ?_
  refine gj_iload_n (pc := 4) cx d_N_lastPaymentBy_4 rfl (x := nI b) rfl ?_
  refine gj_ialdN (pc := 5) (i := b) (f := nCn u) cx hK gj_rP d_N_lastPaymentBy_5 2 0 rfl rfl (by omega) (by decide) ?_
  have hv1 := hcn b
  refine gj_istore_n (pc := 6) cx d_N_lastPaymentBy_6 rfl (lo' := [(2, .int (nI (nCn u b))), (0, .ref (a 0)), (1, .int (nI b))]) (by decide) rfl ?_
  refine gj_pick (lo' := [(0, .ref (a 0)), (1, .int (nI b)), (2, .int (nI (nCn u b)))]) [1, 2, 0] rfl ?_
  refine gj_forH (G := Gj p l e _ s m _ below meth c _ _ _ _ _) (fun i => nLast u me b (nCn u b - i) = nLast u me b (nCn u b)) (nCn u b) 7 (fun i => [(0, .ref (a 0)), (1, .int (nI b)), (2, .int (nI (nCn u b - i)))]) (fun i => nW cI cJ a me n f u) (fun i hi ihi qi => ?_) 0 (by omega) (rfl)
  refine gj_iload_n (pc := 7) cx d_N_lastPaymentBy_7 rfl (x := nI (nCn u b - i)) rfl ?_
  refine gj_if_leN (pc := 8) cx d_N_lastPaymentBy_8 (tgt := 40) rfl (by have := hcn b; omega) (fun hb2 => ?_) (fun hb2 => ?_)
  · refine gj_iconst (pc := 40) cx d_N_lastPaymentBy_40 (v := nI 0) (by decide) ?_
    exact gj_iretR (pc := 41) cx hr hlk d_N_lastPaymentBy_41 (by rw [← qi, show nCn u b - i = 0 from (by omega)]; rfl)
  · refine gj_aload_n (pc := 11) cx d_N_lastPaymentBy_11 rfl (x := a 0) rfl ?_
    refine gj_get (pc := 12) (ci := 0) (C := R_N) (T := T_N) (N := 12) (v := .ref (a 1)) cx hK gj_rP in_N d_N_lastPaymentBy_12 0 rfl rfl 6 (by decide) (in_WT wm_39) rfl ?_
    refine gj_iconst (pc := 15) cx d_N_lastPaymentBy_15 (v := nI 3) (by decide) ?_
    refine gj_iload_n (pc := 16) cx d_N_lastPaymentBy_16 rfl (x := nI b) rfl ?_
    refine gj_iload_n (pc := 17) cx d_N_lastPaymentBy_17 rfl (x := nI (nCn u b - i)) rfl ?_
    refine gj_callSRi (pc := 18) (As := [.int (nI 3), .int (nI b), .int (nI (nCn u b - i))]) (rest := [.ref (a 1)]) (v := nI ((21 + b) * 5 + (nCn u b - i) - 1)) cx hK (c_T_of l D (tyl cI cJ) 3 b (nCn u b - i) (by omega)) (va_cwS 3 cx.2.2.2.2 (good_S wm_90 wm_88 wm_89 wm_6) rfl rfl rfl (by decide +kernel) ⟨Nat.le_of_ble_eq_true rfl, Nat.le_of_ble_eq_true rfl⟩) (fun _ _ _ => gj_P0) rfl rfl (Nat.le_of_ble_eq_true rfl) d_N_lastPaymentBy_18 ⟨Nat.zero_le _, Nat.zero_le _⟩ ?_
    refine gj_toi (y := nI (105 + b * 5 + (nCn u b - i - 1))) (congrArg nI (by omega)) ?_
    refine gj_lald (pc := 21) (i := 105 + b * 5 + (nCn u b - i - 1)) (f := nSa u) cx hK gj_rP d_N_lastPaymentBy_21 1 1 rfl rfl (by omega) (by decide) ?_
    refine gj_callSRi (pc := 22) (As := [.long (nSa u (105 + b * 5 + (nCn u b - i - 1)))]) (rest := []) (v := nI (payN (nSa u (105 + b * 5 + (nCn u b - i - 1))))) cx hK (c_P_payee l D (tyl cI cJ) (nSa u (105 + b * 5 + (nCn u b - i - 1))) ) (va_cwS 1 cx.2.2.2.2 (good_S wm_103 wm_101 wm_102 wm_7) rfl rfl rfl (by decide +kernel) ⟨Nat.le_of_ble_eq_true rfl, Nat.le_of_ble_eq_true rfl⟩) (fun _ _ _ => gj_P0) rfl rfl (Nat.le_of_ble_eq_true rfl) d_N_lastPaymentBy_22 ⟨Nat.zero_le _, Nat.zero_le _⟩ ?_
    have hv3 := payN_lt (nSa u (105 + b * 5 + (nCn u b - i - 1)))
    refine gj_aload_n (pc := 25) cx d_N_lastPaymentBy_25 rfl (x := a 0) rfl ?_
    refine gj_get (pc := 26) (ci := 0) (C := R_N) (T := T_N) (N := 12) (v := .int (nI me)) cx hK gj_rP in_N d_N_lastPaymentBy_26 0 rfl rfl 0 (by decide) (in_WT wm_33) rfl ?_
    refine gj_icmp_neN (pc := 29) cx d_N_lastPaymentBy_29 (tgt := 34) rfl (by omega) (by omega) (fun hb4 => ?_) (fun hb4 => ?_)
    · refine gj_iinc (pc := 34) cx d_N_lastPaymentBy_34 (k := 2) (v := nI ((nCn u b - i) - 1)) (lo' := [(2, .int (nI ((nCn u b - i) - 1))), (0, .ref (a 0)), (1, .int (nI b))]) rfl (gj_dec (by omega)) (by decide) rfl ?_
      refine gj_goto (pc := 37) cx d_N_lastPaymentBy_37 (tgt := 7) rfl ?_
      refine gj_pick (lo' := [(0, .ref (a 0)), (1, .int (nI b)), (2, .int (nI ((nCn u b - i) - 1)))]) [1, 2, 0] rfl ?_
      exact gj_eq rfl (rfl) rfl (rfl) (ihi (by omega) (by rw [← qi, nLast_pos (t := nCn u b - i) (by omega), if_neg hb4]; rfl))
    · refine gj_iload_n (pc := 32) cx d_N_lastPaymentBy_32 rfl (x := nI (nCn u b - i)) rfl ?_
      exact gj_iretR (pc := 33) cx hr hlk d_N_lastPaymentBy_33 (by rw [← qi, nLast_pos (t := nCn u b - i) (by omega), if_pos hb4])

set_option maxRecDepth 100000 in
set_option maxHeartbeats 4000000 in
theorem c_N_needs (l : Launch) (D : va_G) (cI cJ : ClassId) (a : Nat → Nat) (me n f : Nat) (u : NS)  (hok : nOk u) (hme : me < 7) (hn : n ≤ 7) : MRl l y_N_needs (wsM y_N_needs b_N_needs 4 (some .long)) { frames := 2, cells := 0, slots := 0, locals := 44 } D vwK (tyl cI cJ) (nW cI cJ a me n f u) [.ref (a 0)] (lN (nNeeds u me n)) := by
  obtain ⟨hco, hfu, hsu, hcn, hfr⟩ := id hok
  refine gj_enterR (own := R_N) (by decide) rfl (Nat.le_of_ble_eq_true rfl) rfl rfl (fun p e s m below meth c cx hr hlk hK => ?_)
  refine gj_lconst (pc := 0) cx d_N_needs_0 (v := 0) (by decide) ?_
  refine gj_lstore_n (pc := 1) cx d_N_needs_1 rfl (lo' := [(1, .long 0), (0, .ref (a 0))]) (by decide) rfl ?_
  refine gj_iconst (pc := 2) cx d_N_needs_2 (v := nI 0) (by decide) ?_
  refine gj_istore_n (pc := 3) cx d_N_needs_3 rfl (lo' := [(3, .int (nI 0)), (1, .long 0), (0, .ref (a 0))]) (by decide) rfl ?_
  refine gj_pick (lo' := [(0, .ref (a 0)), (1, .long 0), (3, .int (nI 0))]) [2, 1, 0] rfl ?_
  refine gj_forG (G := Gj p l e _ s m _ below meth c _ _ _ _ _) n 4 (fun i => [(0, .ref (a 0)), (1, .long (lN (digs (fun c => nLast u me c (nCn u c)) i))), (3, .int (nI i))]) (fun i => nW cI cJ a me n f u) (fun i hi ihi => ?_) 0 (by omega)
  refine gj_iload_n (pc := 4) cx d_N_needs_4 rfl (x := nI i) rfl ?_
  refine gj_aload_n (pc := 5) cx d_N_needs_5 rfl (x := a 0) rfl ?_
  refine gj_get (pc := 6) (ci := 0) (C := R_N) (T := T_N) (N := 12) (v := .int (nI n)) cx hK gj_rP in_N d_N_needs_6 0 rfl rfl 1 (by decide) (in_WT wm_34) rfl ?_
  refine gj_icmp_geN (pc := 9) cx d_N_needs_9 (tgt := 31) rfl (by omega) (by omega) (fun hb1 => ?_) (fun hb1 => ?_)
  · have hin : n = i := by omega
    subst hin
    refine gj_lload_n (pc := 31) cx d_N_needs_31 rfl (x := lN (nNeeds u me n)) rfl ?_
    exact gj_lretR (pc := 32) cx hr hlk d_N_needs_32 (rfl)
  · refine gj_lload_n (pc := 12) cx d_N_needs_12 rfl (x := lN (digs (fun c => nLast u me c (nCn u c)) i)) rfl ?_
    refine gj_aload_n (pc := 13) cx d_N_needs_13 rfl (x := a 0) rfl ?_
    refine gj_iload_n (pc := 14) cx d_N_needs_14 rfl (x := nI i) rfl ?_
    refine gj_callVRi (pc := 15) (As := [.int (nI i)]) (rest := [.long (lN (digs (fun c => nLast u me c (nCn u c)) i))]) (v := nI (nLast u me i (nCn u i))) cx hK (c_N_lastPaymentBy l D cI cJ a me n f u i (by omega) (by omega) (by omega)) (cwV 1 cx.2.2.2.2 (good_V wm_100 wm_98 wm_99 wm_536 wm_3) rfl rfl rfl (by decide +kernel) ⟨Nat.le_of_ble_eq_true rfl, Nat.le_of_ble_eq_true rfl⟩) gj_rP 0 0 rfl rfl rfl rfl rfl (Nat.le_of_ble_eq_true rfl) d_N_needs_15 ⟨Nat.zero_le _, Nat.zero_le _⟩ ?_
    refine gj_i2l (pc := 18) cx d_N_needs_18 rfl ?_
    refine gj_iconst (pc := 19) cx d_N_needs_19 (v := nI 3) (by decide) ?_
    refine gj_iload_n (pc := 20) cx d_N_needs_20 rfl (x := nI i) rfl ?_
    refine gj_imulN (pc := 21) cx d_N_needs_21 ?_
    refine gj_lshl (pc := 22) cx d_N_needs_22 rfl ?_
    refine gj_lor (pc := 23) cx d_N_needs_23 ?_
    refine gj_tol (y := lN (digs (fun c => nLast u me c (nCn u c)) (i + 1))) (digs_or (f := (fun c => nLast u me c (nCn u c))) (fun c => by have := hcn c; have := nLast_le u me c (nCn u c); omega) (by omega)) ?_
    refine gj_lstore_n (pc := 24) cx d_N_needs_24 rfl (lo' := [(1, .long (lN (digs (fun c => nLast u me c (nCn u c)) (i + 1)))), (0, .ref (a 0)), (3, .int (nI i))]) (by decide) rfl ?_
    refine gj_iincN (pc := 25) cx d_N_needs_25 (k := 2) (d := 1) (lo' := [(3, .int (nI (i + 1))), (1, .long (lN (digs (fun c => nLast u me c (nCn u c)) (i + 1)))), (0, .ref (a 0))]) rfl (by decide) (by decide) rfl ?_
    refine gj_goto (pc := 28) cx d_N_needs_28 (tgt := 4) rfl ?_
    refine gj_pick (lo' := [(0, .ref (a 0)), (1, .long (lN (digs (fun c => nLast u me c (nCn u c)) (i + 1)))), (3, .int (nI (i + 1)))]) [2, 1, 0] rfl ?_
    exact gj_eq rfl (rfl) rfl (rfl) (ihi (by omega))

set_option maxRecDepth 100000 in
set_option maxHeartbeats 4000000 in
theorem c_N_writeMark (l : Launch) (D : va_G) (cI cJ : ClassId) (a : Nat → Nat) (me n f : Nat) (u : NS)  (hok : nOk u) (hn : n ≤ 7) (sz : Nat) : MWi l y_N_writeMark (wsM y_N_writeMark b_N_writeMark 4 (some .int)) { frames := 3, cells := 0, slots := 0, locals := 67 } D vwK (tyl cI cJ) (nW cI cJ a me n f u) (nW cI cJ a me n f ((nMarkW u n).2)) sz [.ref (a 0)] ((nMarkW u n).1) := by
  obtain ⟨hco, hfu, hsu, hcn, hfr⟩ := id hok
  refine gj_enterW (own := R_N) (by decide) rfl (Nat.le_of_ble_eq_true rfl) rfl rfl (fun p e s m below meth c cx hr hlk hK hsz => ?_)
  have hA : ∀ q, s.heap.size ≤ q → va_A (nW cI cJ a me n f u) sz q := fun q h => Or.inr (hsz ▸ h)
  refine gj_lconst (pc := 0) cx d_N_writeMark_0 (v := 0) (by decide) ?_
  refine gj_lstore_n (pc := 1) cx d_N_writeMark_1 rfl (lo' := [(1, .long 0), (0, .ref (a 0))]) (by decide) rfl ?_
  refine gj_iconst (pc := 2) cx d_N_writeMark_2 (v := nI 0) (by decide) ?_
  refine gj_istore_n (pc := 3) cx d_N_writeMark_3 rfl (lo' := [(3, .int (nI 0)), (1, .long 0), (0, .ref (a 0))]) (by decide) rfl ?_
  refine gj_pick (lo' := [(0, .ref (a 0)), (1, .long 0), (3, .int (nI 0))]) [2, 1, 0] rfl ?_
  refine gj_forG (G := Gj p l e _ s m _ below meth c _ _ _ _ _) n 4 (fun i => [(0, .ref (a 0)), (1, .long (lN (digs (nCn u) i))), (3, .int (nI i))]) (fun i => nW cI cJ a me n f u) (fun i hi ihi => ?_) 0 (by omega)
  refine gj_iload_n (pc := 4) cx d_N_writeMark_4 rfl (x := nI i) rfl ?_
  refine gj_aload_n (pc := 5) cx d_N_writeMark_5 rfl (x := a 0) rfl ?_
  refine gj_get (pc := 6) (ci := 0) (C := R_N) (T := T_N) (N := 12) (v := .int (nI n)) cx hK gj_wP in_N d_N_writeMark_6 0 rfl rfl 1 (by decide) (in_WT wm_34) rfl ?_
  refine gj_icmp_geN (pc := 9) cx d_N_writeMark_9 (tgt := 32) rfl (by omega) (by omega) (fun hb1 => ?_) (fun hb1 => ?_)
  · have hin : n = i := by omega
    subst hin
    refine gj_aload_n (pc := 32) cx d_N_writeMark_32 rfl (x := a 0) rfl ?_
    refine gj_sipush (pc := 33) cx d_N_writeMark_33 (v := nI 140) (by decide) ?_
    refine gj_lload_n (pc := 36) cx d_N_writeMark_36 rfl (x := lN (nMark u n)) rfl ?_
    refine gj_callVWi (pc := 37) (As := [.int (nI 140), .long (lN (nMark u n))]) (rest := []) (v := bI (nWrB u)) (ws' := nW cI cJ a me n f (nWr u 140 (lN (nMark u n)))) cx hK hA (fun sz => c_N_write l D cI cJ a me n f u 140 (lN (nMark u n)) (hok) (by omega) sz) (cwV 2 cx.2.2.2.2 (good_V wm_110 wm_108 wm_109 wm_537 wm_3) rfl rfl rfl (by decide +kernel) ⟨Nat.le_of_ble_eq_true rfl, Nat.le_of_ble_eq_true rfl⟩) gj_J.self 0 0 rfl rfl rfl rfl rfl (Nat.le_of_ble_eq_true rfl) d_N_writeMark_37 ⟨Nat.zero_le _, Nat.zero_le _⟩ ?_
    refine gj_if_eqB (pc := 40) cx d_N_writeMark_40 (tgt := 48) rfl (fun hb2 => ?_) (fun hb2 => ?_)
    · refine gj_bipush (pc := 48) cx d_N_writeMark_48 (v := (-7)) (by decide) ?_
      exact gj_iretW (pc := 50) cx hr hlk d_N_writeMark_50 (by rw [nMarkW, if_pos (nWrB_f hb2)]) (by rw [nMarkW, if_pos (nWrB_f hb2), nWr_f hb2])
    · refine gj_lload_n (pc := 43) cx d_N_writeMark_43 rfl (x := lN (nMark u n)) rfl ?_
      refine gj_l2i (pc := 44) cx d_N_writeMark_44 rfl ?_
      refine gj_toi (y := nI (nMark u n)) (lN_toI) ?_
      refine gj_goto (pc := 45) cx d_N_writeMark_45 (tgt := 50) rfl ?_
      exact gj_iretW (pc := 50) cx hr hlk d_N_writeMark_50 (by rw [nMarkW, if_neg (nWrB_t hb2)]) (by rw [nMarkW, if_neg (nWrB_t hb2)])
  · refine gj_lload_n (pc := 12) cx d_N_writeMark_12 rfl (x := lN (digs (nCn u) i)) rfl ?_
    refine gj_aload_n (pc := 13) cx d_N_writeMark_13 rfl (x := a 0) rfl ?_
    refine gj_get (pc := 14) (ci := 0) (C := R_N) (T := T_N) (N := 12) (v := .ref (a 2)) cx hK gj_wP in_N d_N_writeMark_14 0 rfl rfl 7 (by decide) (in_WT wm_40) rfl ?_
    refine gj_iload_n (pc := 17) cx d_N_writeMark_17 rfl (x := nI i) rfl ?_
    refine gj_ialdN (pc := 18) (i := i) (f := nCn u) cx hK gj_wP d_N_writeMark_18 2 0 rfl rfl (by omega) (by decide) ?_
    have hv3 := hcn i
    refine gj_i2l (pc := 19) cx d_N_writeMark_19 rfl ?_
    refine gj_iconst (pc := 20) cx d_N_writeMark_20 (v := nI 3) (by decide) ?_
    refine gj_iload_n (pc := 21) cx d_N_writeMark_21 rfl (x := nI i) rfl ?_
    refine gj_imulN (pc := 22) cx d_N_writeMark_22 ?_
    refine gj_lshl (pc := 23) cx d_N_writeMark_23 rfl ?_
    refine gj_lor (pc := 24) cx d_N_writeMark_24 ?_
    refine gj_tol (y := lN (digs (nCn u) (i + 1))) (digs_or (f := nCn u) (fun c => by have := hcn c; omega) (by omega)) ?_
    refine gj_lstore_n (pc := 25) cx d_N_writeMark_25 rfl (lo' := [(1, .long (lN (digs (nCn u) (i + 1)))), (0, .ref (a 0)), (3, .int (nI i))]) (by decide) rfl ?_
    refine gj_iincN (pc := 26) cx d_N_writeMark_26 (k := 2) (d := 1) (lo' := [(3, .int (nI (i + 1))), (1, .long (lN (digs (nCn u) (i + 1)))), (0, .ref (a 0))]) rfl (by decide) (by decide) rfl ?_
    refine gj_goto (pc := 29) cx d_N_writeMark_29 (tgt := 4) rfl ?_
    refine gj_pick (lo' := [(0, .ref (a 0)), (1, .long (lN (digs (nCn u) (i + 1)))), (3, .int (nI (i + 1)))]) [2, 1, 0] rfl ?_
    exact gj_eq rfl (rfl) rfl (rfl) (ihi (by omega))

set_option maxRecDepth 100000 in
set_option maxHeartbeats 4000000 in
theorem c_N_writeSubmission (l : Launch) (D : va_G) (cI cJ : ClassId) (a : Nat → Nat) (me n f : Nat) (u : NS) (pay : Nat) (amt : Nat) (hok : nOk u) (hme : me < 7) (hn : n ≤ 7) (hp : pay < 8) (ha : amt < 1024) (sz : Nat) : MWi l y_N_writeSubmission (wsM y_N_writeSubmission b_N_writeSubmission 3 (some .int)) { frames := 3, cells := 0, slots := 0, locals := 67 } D vwK (tyl cI cJ) (nW cI cJ a me n f u) (nW cI cJ a me n f ((nSubmit u me n pay amt).2)) sz [.ref (a 0), .int (nI pay), .int (nI amt)] ((nSubmit u me n pay amt).1) := by
  obtain ⟨hco, hfu, hsu, hcn, hfr⟩ := id hok
  refine gj_enterW (own := R_N) (by decide) rfl (Nat.le_of_ble_eq_true rfl) rfl rfl (fun p e s m below meth c cx hr hlk hK hsz => ?_)
  have hA : ∀ q, s.heap.size ≤ q → va_A (nW cI cJ a me n f u) sz q := fun q h => Or.inr (hsz ▸ h)
  refine gj_aload_n (pc := 0) cx d_N_writeSubmission_0 rfl (x := a 0) rfl ?_
  refine gj_get (pc := 1) (ci := 0) (C := R_N) (T := T_N) (N := 12) (v := .int (nI (nSu u))) cx hK gj_wP in_N d_N_writeSubmission_1 0 rfl rfl 5 (by decide) (in_WT wm_38) rfl ?_
  refine gj_iconst (pc := 4) cx d_N_writeSubmission_4 (v := nI 5) (by decide) ?_
  refine gj_icmp_ltN (pc := 5) cx d_N_writeSubmission_5 (tgt := 11) rfl (by omega) (by omega) (fun hb1 => ?_) (fun hb1 => ?_)
  · refine gj_aload_n (pc := 11) cx d_N_writeSubmission_11 rfl (x := a 0) rfl ?_
    refine gj_callVRl (pc := 12) (As := []) (rest := []) (v := nSpend u me) cx hK (c_N_spendable l D cI cJ a me n f u  (hok) (by omega)) (cwV 0 cx.2.2.2.2 (good_V wm_87 wm_85 wm_86 wm_534 wm_3) rfl rfl rfl (by decide +kernel) ⟨Nat.le_of_ble_eq_true rfl, Nat.le_of_ble_eq_true rfl⟩) gj_wP 0 0 rfl rfl rfl rfl rfl (Nat.le_of_ble_eq_true rfl) d_N_writeSubmission_12 ⟨Nat.zero_le _, Nat.zero_le _⟩ ?_
    refine gj_iload_n (pc := 15) cx d_N_writeSubmission_15 rfl (x := nI amt) rfl ?_
    refine gj_i2l (pc := 16) cx d_N_writeSubmission_16 rfl ?_
    refine gj_tol (y := lN amt) (nI_l (by omega)) ?_
    refine gj_lcmp_ge (pc := 17) cx d_N_writeSubmission_17 d_N_writeSubmission_18 (tgt := 24) rfl (fun hb2 => ?_) (fun hb2 => ?_)
    · refine gj_aload_n (pc := 24) cx d_N_writeSubmission_24 rfl (x := a 0) rfl ?_
      refine gj_iconst (pc := 25) cx d_N_writeSubmission_25 (v := nI 0) (by decide) ?_
      refine gj_aload_n (pc := 26) cx d_N_writeSubmission_26 rfl (x := a 0) rfl ?_
      refine gj_get (pc := 27) (ci := 0) (C := R_N) (T := T_N) (N := 12) (v := .int (nI me)) cx hK gj_wP in_N d_N_writeSubmission_27 0 rfl rfl 0 (by decide) (in_WT wm_33) rfl ?_
      refine gj_aload_n (pc := 30) cx d_N_writeSubmission_30 rfl (x := a 0) rfl ?_
      refine gj_get (pc := 31) (ci := 0) (C := R_N) (T := T_N) (N := 12) (v := .int (nI (nSu u))) cx hK gj_wP in_N d_N_writeSubmission_31 0 rfl rfl 5 (by decide) (in_WT wm_38) rfl ?_
      refine gj_iconst (pc := 34) cx d_N_writeSubmission_34 (v := nI 1) (by decide) ?_
      refine gj_iaddN (pc := 35) cx d_N_writeSubmission_35 ?_
      refine gj_callSRi (pc := 36) (As := [.int (nI 0), .int (nI me), .int (nI ((nSu u) + 1))]) (rest := [.ref (a 0)]) (v := nI ((0 + me) * 5 + ((nSu u) + 1) - 1)) cx hK (c_T_of l D (tyl cI cJ) 0 me ((nSu u) + 1) (by omega)) (va_cwS 3 cx.2.2.2.2 (good_S wm_90 wm_88 wm_89 wm_6) rfl rfl rfl (by decide +kernel) ⟨Nat.le_of_ble_eq_true rfl, Nat.le_of_ble_eq_true rfl⟩) (fun _ _ _ => gj_P0) rfl rfl (Nat.le_of_ble_eq_true rfl) d_N_writeSubmission_36 ⟨Nat.zero_le _, Nat.zero_le _⟩ ?_
      refine gj_toi (y := nI (me * 5 + nSu u)) (congrArg nI (by omega)) ?_
      refine gj_iload_n (pc := 39) cx d_N_writeSubmission_39 rfl (x := nI pay) rfl ?_
      refine gj_iload_n (pc := 40) cx d_N_writeSubmission_40 rfl (x := nI amt) rfl ?_
      refine gj_aload_n (pc := 41) cx d_N_writeSubmission_41 rfl (x := a 0) rfl ?_
      refine gj_callVRl (pc := 42) (As := []) (rest := [.int (nI amt), .int (nI pay), .int (nI (me * 5 + nSu u)), .ref (a 0)]) (v := lN (nNeeds u me n)) cx hK (c_N_needs l D cI cJ a me n f u  (hok) (by omega) (by omega)) (cwV 0 cx.2.2.2.2 (good_V wm_97 wm_95 wm_96 wm_535 wm_3) rfl rfl rfl (by decide +kernel) ⟨Nat.le_of_ble_eq_true rfl, Nat.le_of_ble_eq_true rfl⟩) gj_wP 0 0 rfl rfl rfl rfl rfl (Nat.le_of_ble_eq_true rfl) d_N_writeSubmission_42 ⟨Nat.zero_le _, Nat.zero_le _⟩ ?_
      refine gj_callSRl (pc := 45) (As := [.int (nI pay), .int (nI amt), .long (lN (nNeeds u me n))]) (rest := [.int (nI (me * 5 + nSu u)), .ref (a 0)]) (v := lN (pay + 8 * amt + 8192 * (nNeeds u me n))) cx hK (c_P_make l D (tyl cI cJ) pay amt (lN (nNeeds u me n)) (nNeeds u me n) (by omega) (by omega) (nNeeds_lt hcn me hn) (rfl)) (va_cwS 3 cx.2.2.2.2 (good_S wm_107 wm_105 wm_106 wm_7) rfl rfl rfl (by decide +kernel) ⟨Nat.le_of_ble_eq_true rfl, Nat.le_of_ble_eq_true rfl⟩) (fun _ _ _ => gj_P0) rfl rfl (Nat.le_of_ble_eq_true rfl) d_N_writeSubmission_45 ⟨Nat.zero_le _, Nat.zero_le _⟩ ?_
      refine gj_callVWi (pc := 48) (As := [.int (nI (me * 5 + nSu u)), .long (lN (pay + 8 * amt + 8192 * (nNeeds u me n)))]) (rest := []) (v := bI (nWrB u)) (ws' := nW cI cJ a me n f (nWr u (me * 5 + nSu u) (lN (pay + 8 * amt + 8192 * (nNeeds u me n))))) cx hK hA (fun sz => c_N_write l D cI cJ a me n f u (me * 5 + nSu u) (lN (pay + 8 * amt + 8192 * (nNeeds u me n))) (hok) (by omega) sz) (cwV 2 cx.2.2.2.2 (good_V wm_110 wm_108 wm_109 wm_537 wm_3) rfl rfl rfl (by decide +kernel) ⟨Nat.le_of_ble_eq_true rfl, Nat.le_of_ble_eq_true rfl⟩) gj_J.self 0 0 rfl rfl rfl rfl rfl (Nat.le_of_ble_eq_true rfl) d_N_writeSubmission_48 ⟨Nat.zero_le _, Nat.zero_le _⟩ ?_
      refine gj_if_neB (pc := 51) cx d_N_writeSubmission_51 (tgt := 57) rfl (fun hb3 => ?_) (fun hb3 => ?_)
      · refine gj_eq (w' := nW cI cJ a me n f (nCo u, nFu u - 1, nSu u, va_up (nSa u) (me * 5 + nSu u) (lN (pay + 8 * amt + 8192 * nNeeds u me n)), nCn u, nFr u, nBa u, nTo u, nAc u)) rfl rfl rfl (by rw [nWr_t hb3]) ?_
        refine gj_aload_n (pc := 57) cx d_N_writeSubmission_57 rfl (x := a 0) rfl ?_
        refine gj_dup (pc := 58) cx d_N_writeSubmission_58 rfl ?_
        refine gj_get (pc := 59) (ci := 0) (C := R_N) (T := T_N) (N := 12) (v := .int (nI (nSu u))) cx hK gj_wP in_N d_N_writeSubmission_59 0 rfl rfl 5 (by decide) (in_WT wm_38) rfl ?_
        refine gj_iconst (pc := 62) cx d_N_writeSubmission_62 (v := nI 1) (by decide) ?_
        refine gj_iaddN (pc := 63) cx d_N_writeSubmission_63 ?_
        refine gj_put (pc := 64) (ci := 0) (C := R_N) (T := T_N) (N := 12) (ty := .int) (v := .int (nI ((nSu u) + 1))) (ws' := nW cI cJ a me n f (nCo u, nFu u - 1, (nSu u) + 1, va_up (nSa u) (me * 5 + nSu u) (lN (pay + 8 * amt + 8192 * nNeeds u me n)), nCn u, nFr u, nBa u, nTo u, nAc u)) cx hK in_N ty_N ty_N_ok nm_N d_N_writeSubmission_64 0 rfl rfl 5 (by decide) (in_WT wm_38) rfl (by decide +kernel) rfl rfl (Nat.le_of_ble_eq_true rfl) rfl ?_
        refine gj_aload_n (pc := 67) cx d_N_writeSubmission_67 rfl (x := a 0) rfl ?_
        refine gj_get (pc := 68) (ci := 0) (C := R_N) (T := T_N) (N := 12) (v := .int (nI ((nSu u) + 1))) cx hK gj_wP in_N d_N_writeSubmission_68 0 rfl rfl 5 (by decide) (in_WT wm_38) rfl ?_
        exact gj_iretW (pc := 71) cx hr hlk d_N_writeSubmission_71 (by rw [nSubmit, if_neg (by omega), if_neg (Int64.not_lt.mpr hb2), if_neg (nWrB_t hb3)]) (by rw [nSubmit, if_neg (by omega), if_neg (Int64.not_lt.mpr hb2), if_neg (nWrB_t hb3), nWr_t hb3])
      · refine gj_bipush (pc := 54) cx d_N_writeSubmission_54 (v := (-7)) (by decide) ?_
        exact gj_iretW (pc := 56) cx hr hlk d_N_writeSubmission_56 (by rw [nSubmit, if_neg (by omega), if_neg (Int64.not_lt.mpr hb2), if_pos (nWrB_f hb3)]) (by rw [nSubmit, if_neg (by omega), if_neg (Int64.not_lt.mpr hb2), if_pos (nWrB_f hb3), nWr_f hb3])
    · refine gj_bipush (pc := 21) cx d_N_writeSubmission_21 (v := (-9)) (by decide) ?_
      exact gj_iretW (pc := 23) cx hr hlk d_N_writeSubmission_23 (by rw [nSubmit, if_neg (by omega), if_pos (Int64.not_le.mp hb2)] <;> rfl) (by rw [nSubmit, if_neg (by omega), if_pos (Int64.not_le.mp hb2)] <;> rfl)
  · refine gj_bipush (pc := 8) cx d_N_writeSubmission_8 (v := (-8)) (by decide) ?_
    exact gj_iretW (pc := 10) cx hr hlk d_N_writeSubmission_10 (by rw [nSubmit, if_pos hb1] <;> rfl) (by rw [nSubmit, if_pos hb1] <;> rfl)
