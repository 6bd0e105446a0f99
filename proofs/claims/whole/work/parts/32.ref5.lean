/-! Contracts of the reference, fifth part, laid by wip/gen/m_ref.py -/
set_option maxRecDepth 100000 in
set_option maxHeartbeats 4000000 in
theorem c_M_deliver (l : Launch) (D : va_G) (cI cJ : ClassId) (am : Nat → Nat) (n f : Nat) (z : Int64) (S : RS)  (hn : n ≤ 7) (hok : rOk S) (hiv : rInv n S) (hf : f ≤ 7) (sz : Nat) : MWi l y_M_deliver (wsM y_M_deliver b_M_deliver 6 (some .boolean)) { frames := 5, cells := 0, slots := 0, locals := 135 } D vwK (tyl cI cJ) (rW cI cJ am n f z S) (rW cI cJ am n f z ((rDlv n f z S).2)) sz [.ref (am 0)] (bI ((rDlv n f z S).1)) := by
  refine gj_enterW (own := R_M) (by decide) rfl (Nat.le_of_ble_eq_true rfl) rfl rfl (fun p e s m below meth c cx hr hlk hK hsz => ?_)
  have hA : ∀ q, s.heap.size ≤ q → va_A (rW cI cJ am n f z S) sz q := fun q h => Or.inr (hsz ▸ h)
  refine gj_iconst (pc := 0) cx d_M_deliver_0 (v := nI 0) (by decide) ?_
  refine gj_istore_n (pc := 1) cx d_M_deliver_1 rfl (lo' := [(1, .int (nI 0)), (0, .ref (am 0))]) (by decide) rfl ?_
  refine gj_pick (lo' := [(0, .ref (am 0)), (1, .int (nI 0))]) [1, 0] rfl ?_
  refine gj_forH (G := Gj p l e _ s m _ below meth c _ _ _ _ _) (fun t => ∀ k, k < t * 49 → rPm n S k = false) 141 2 (fun t => [(0, .ref (am 0)), (1, .int (nI t))]) (fun t => rW cI cJ am n f z S) (fun t ht iht qt => ?_) 0 (by omega) (fun k hk => by omega)
  refine gj_iload_n (pc := 2) cx d_M_deliver_2 rfl (x := nI t) rfl ?_
  refine gj_sipush (pc := 3) cx d_M_deliver_3 (v := nI 140) (by decide) ?_
  refine gj_icmp_gtN (pc := 6) cx d_M_deliver_6 (tgt := 85) rfl (by omega) (by omega) (fun hb1 => ?_) (fun hb1 => ?_)
  · refine gj_iconst (pc := 85) cx d_M_deliver_85 (v := nI 0) (by decide) ?_
    exact gj_zretW (pc := 86) cx hr hlk d_M_deliver_86 rfl (by rw [rDlv_f (fstB_none (fun k hk => qt k (by omega)))] <;> rfl) (by rw [rDlv_f (fstB_none (fun k hk => qt k (by omega)))] <;> rfl)
  · refine gj_iconst (pc := 9) cx d_M_deliver_9 (v := nI 0) (by decide) ?_
    refine gj_istore_n (pc := 10) cx d_M_deliver_10 rfl (lo' := [(2, .int (nI 0)), (0, .ref (am 0)), (1, .int (nI t))]) (by decide) rfl ?_
    refine gj_pick (lo' := [(0, .ref (am 0)), (1, .int (nI t)), (2, .int (nI 0))]) [1, 2, 0] rfl ?_
    refine gj_forH (G := Gj p l e _ s m _ below meth c _ _ _ _ _) (fun y => ∀ k, k < (t * 7 + y) * 7 → rPm n S k = false) n 11 (fun y => [(0, .ref (am 0)), (1, .int (nI t)), (2, .int (nI y))]) (fun y => rW cI cJ am n f z S) (fun y hy ihy qy => ?_) 0 (by omega) (fun k hk => qt k (by omega))
    refine gj_iload_n (pc := 11) cx d_M_deliver_11 rfl (x := nI y) rfl ?_
    refine gj_aload_n (pc := 12) cx d_M_deliver_12 rfl (x := am 0) rfl ?_
    refine gj_get (pc := 13) (ci := 2) (C := R_M) (T := T_M) (N := 15) (v := .int (nI n)) cx hK gj_wP in_M d_M_deliver_13 0 rfl rfl 0 (by decide) (in_WT wm_341) rfl ?_
    refine gj_icmp_geN (pc := 16) cx d_M_deliver_16 (tgt := 79) rfl (by omega) (by omega) (fun hb2 => ?_) (fun hb2 => ?_)
    · refine gj_iincN (pc := 79) cx d_M_deliver_79 (k := 1) (d := 1) (lo' := [(1, .int (nI (t + 1))), (0, .ref (am 0)), (2, .int (nI y))]) rfl (by decide) (by decide) rfl ?_
      refine gj_goto (pc := 82) cx d_M_deliver_82 (tgt := 2) rfl ?_
      refine gj_pick (lo' := [(0, .ref (am 0)), (1, .int (nI (t + 1)))]) [1, 0] rfl ?_
      exact gj_eq rfl (rfl) rfl (rfl) (iht (by omega) (rPm_y ((show y = n from (by omega)) ▸ qy)))
    · refine gj_aload_n (pc := 19) cx d_M_deliver_19 rfl (x := am 0) rfl ?_
      refine gj_iload_n (pc := 20) cx d_M_deliver_20 rfl (x := nI t) rfl ?_
      refine gj_iload_n (pc := 21) cx d_M_deliver_21 rfl (x := nI y) rfl ?_
      refine gj_iconst (pc := 22) cx d_M_deliver_22 (v := nI 1) (by decide) ?_
      refine gj_callVRi (pc := 23) (As := [.int (nI t), .int (nI y), .int (nI 1)]) (rest := []) (v := if fstB (rPd S n t y) n 0 = n then -1 else nI (fstB (rPd S n t y) n 0)) cx hK (c_M_to_l l D cI cJ am n f z S t y (by omega) (hok) (by omega) (by omega)) (cwV 3 cx.2.2.2.2 (good_V wm_377 wm_375 wm_376 wm_555 wm_5) rfl rfl rfl (by decide +kernel) ⟨Nat.le_of_ble_eq_true rfl, Nat.le_of_ble_eq_true rfl⟩) gj_wP 0 2 rfl rfl rfl rfl rfl (Nat.le_of_ble_eq_true rfl) d_M_deliver_23 ⟨Nat.zero_le _, Nat.zero_le _⟩ ?_
      by_cases hL : fstB (rPd S n t y) n 0 = n
      · refine gj_toi (y := (-1)) (if_pos hL) ?_
        refine gj_istore_n (pc := 26) cx d_M_deliver_26 rfl (lo' := [(3, .int (-1)), (0, .ref (am 0)), (1, .int (nI t)), (2, .int (nI y))]) (by decide) rfl ?_
        refine gj_iload_n (pc := 27) cx d_M_deliver_27 rfl (x := (-1)) rfl ?_
        refine gj_if_lt (pc := 28) cx d_M_deliver_28 (tgt := 73) rfl (fun hb3 => ?_) (fun hb3 => absurd hb3 (by decide))
        refine gj_iincN (pc := 73) cx d_M_deliver_73 (k := 3) (d := 1) (lo' := [(2, .int (nI (y + 1))), (3, .int (-1)), (0, .ref (am 0)), (1, .int (nI t))]) rfl (by decide) (by decide) rfl ?_
        refine gj_goto (pc := 76) cx d_M_deliver_76 (tgt := 11) rfl ?_
        refine gj_pick (lo' := [(0, .ref (am 0)), (1, .int (nI t)), (2, .int (nI (y + 1)))]) [2, 3, 0] rfl ?_
        exact gj_eq rfl (rfl) rfl (rfl) (ihy (by omega) (rPm_x hn (by omega) qy hL))
      · refine gj_toi (y := nI (fstB (rPd S n t y) n 0)) (if_neg hL) ?_
        obtain ⟨hF1, hF2⟩ := rFst_at (by omega) (by omega) hn qy hL
        refine gj_istore_n (pc := 26) cx d_M_deliver_26 rfl (lo' := [(3, .int (nI (fstB (rPd S n t y) n 0))), (0, .ref (am 0)), (1, .int (nI t)), (2, .int (nI y))]) (by decide) rfl ?_
        refine gj_iload_n (pc := 27) cx d_M_deliver_27 rfl (x := nI (fstB (rPd S n t y) n 0)) rfl ?_
        refine gj_if_ltN (pc := 28) cx d_M_deliver_28 (tgt := 73) rfl (by omega) (fun hb4 => absurd hb4 (by omega)) (fun hb4 => ?_)
        refine gj_aload_n (pc := 31) cx d_M_deliver_31 rfl (x := am 0) rfl ?_
        refine gj_iload_n (pc := 32) cx d_M_deliver_32 rfl (x := nI y) rfl ?_
        refine gj_iload_n (pc := 33) cx d_M_deliver_33 rfl (x := nI t) rfl ?_
        refine gj_callSRi (pc := 34) (As := [.int (nI t)]) (rest := [.int (nI y), .ref (am 0)]) (v := nI (t / 35)) cx hK (c_M_kindOf l D (tyl cI cJ) t (by omega)) (va_cwS 1 cx.2.2.2.2 (good_S wm_383 wm_381 wm_382 wm_5) rfl rfl rfl (by decide +kernel) ⟨Nat.le_of_ble_eq_true rfl, Nat.le_of_ble_eq_true rfl⟩) (fun _ _ _ => gj_P0) rfl rfl (Nat.le_of_ble_eq_true rfl) d_M_deliver_34 ⟨Nat.zero_le _, Nat.zero_le _⟩ ?_
        refine gj_iload_n (pc := 37) cx d_M_deliver_37 rfl (x := nI t) rfl ?_
        refine gj_callSRi (pc := 38) (As := [.int (nI t)]) (rest := [.int (nI (t / 35)), .int (nI y), .ref (am 0)]) (v := nI (tA t)) cx hK (c_M_accountOf l D (tyl cI cJ) t (by omega)) (va_cwS 1 cx.2.2.2.2 (good_S wm_386 wm_384 wm_385 wm_5) rfl rfl rfl (by decide +kernel) ⟨Nat.le_of_ble_eq_true rfl, Nat.le_of_ble_eq_true rfl⟩) (fun _ _ _ => gj_P0) rfl rfl (Nat.le_of_ble_eq_true rfl) d_M_deliver_38 ⟨Nat.zero_le _, Nat.zero_le _⟩ ?_
        refine gj_iload_n (pc := 41) cx d_M_deliver_41 rfl (x := nI t) rfl ?_
        refine gj_callSRi (pc := 42) (As := [.int (nI t)]) (rest := [.int (nI (tA t)), .int (nI (t / 35)), .int (nI y), .ref (am 0)]) (v := nI (tQ t)) cx hK (c_M_seqOf l D (tyl cI cJ) t (by omega)) (va_cwS 1 cx.2.2.2.2 (good_S wm_389 wm_387 wm_388 wm_5) rfl rfl rfl (by decide +kernel) ⟨Nat.le_of_ble_eq_true rfl, Nat.le_of_ble_eq_true rfl⟩) (fun _ _ _ => gj_P0) rfl rfl (Nat.le_of_ble_eq_true rfl) d_M_deliver_42 ⟨Nat.zero_le _, Nat.zero_le _⟩ ?_
        refine gj_callVRl (pc := 45) (As := [.int (nI y), .int (nI (t / 35)), .int (nI (tA t)), .int (nI (tQ t))]) (rest := []) (v := rSaidC S n y (nI (t / 35)) (nI (tA t)) (nI (tQ t))) cx hK (c_M_said l D cI cJ am n f z S y (nI (t / 35)) (nI (tA t)) (nI (tQ t)) (by omega) (hok) (by omega)) (cwV 4 cx.2.2.2.2 (good_V wm_392 wm_390 wm_391 wm_557 wm_5) rfl rfl rfl (by decide +kernel) ⟨Nat.le_of_ble_eq_true rfl, Nat.le_of_ble_eq_true rfl⟩) gj_wP 0 2 rfl rfl rfl rfl rfl (Nat.le_of_ble_eq_true rfl) d_M_deliver_45 ⟨Nat.zero_le _, Nat.zero_le _⟩ ?_
        refine gj_tol (y := rSd S n y t) (rfl) ?_
        refine gj_lstore (pc := 48) cx d_M_deliver_48 (lo' := [(4, .long (rSd S n y t)), (3, .int (nI (fstB (rPd S n t y) n 0))), (0, .ref (am 0)), (1, .int (nI t)), (2, .int (nI y))]) (by decide) rfl ?_
        refine gj_aload_n (pc := 50) cx d_M_deliver_50 rfl (x := am 0) rfl ?_
        refine gj_iload_n (pc := 51) cx d_M_deliver_51 rfl (x := nI (fstB (rPd S n t y) n 0)) rfl ?_
        refine gj_iload_n (pc := 52) cx d_M_deliver_52 rfl (x := nI y) rfl ?_
        refine gj_iload_n (pc := 53) cx d_M_deliver_53 rfl (x := nI t) rfl ?_
        refine gj_callSRi (pc := 54) (As := [.int (nI t)]) (rest := [.int (nI y), .int (nI (fstB (rPd S n t y) n 0)), .ref (am 0)]) (v := nI (t / 35)) cx hK (c_M_kindOf l D (tyl cI cJ) t (by omega)) (va_cwS 1 cx.2.2.2.2 (good_S wm_383 wm_381 wm_382 wm_5) rfl rfl rfl (by decide +kernel) ⟨Nat.le_of_ble_eq_true rfl, Nat.le_of_ble_eq_true rfl⟩) (fun _ _ _ => gj_P0) rfl rfl (Nat.le_of_ble_eq_true rfl) d_M_deliver_54 ⟨Nat.zero_le _, Nat.zero_le _⟩ ?_
        refine gj_iload_n (pc := 57) cx d_M_deliver_57 rfl (x := nI t) rfl ?_
        refine gj_callSRi (pc := 58) (As := [.int (nI t)]) (rest := [.int (nI (t / 35)), .int (nI y), .int (nI (fstB (rPd S n t y) n 0)), .ref (am 0)]) (v := nI (tA t)) cx hK (c_M_accountOf l D (tyl cI cJ) t (by omega)) (va_cwS 1 cx.2.2.2.2 (good_S wm_386 wm_384 wm_385 wm_5) rfl rfl rfl (by decide +kernel) ⟨Nat.le_of_ble_eq_true rfl, Nat.le_of_ble_eq_true rfl⟩) (fun _ _ _ => gj_P0) rfl rfl (Nat.le_of_ble_eq_true rfl) d_M_deliver_58 ⟨Nat.zero_le _, Nat.zero_le _⟩ ?_
        refine gj_iload_n (pc := 61) cx d_M_deliver_61 rfl (x := nI t) rfl ?_
        refine gj_callSRi (pc := 62) (As := [.int (nI t)]) (rest := [.int (nI (tA t)), .int (nI (t / 35)), .int (nI y), .int (nI (fstB (rPd S n t y) n 0)), .ref (am 0)]) (v := nI (tQ t)) cx hK (c_M_seqOf l D (tyl cI cJ) t (by omega)) (va_cwS 1 cx.2.2.2.2 (good_S wm_389 wm_387 wm_388 wm_5) rfl rfl rfl (by decide +kernel) ⟨Nat.le_of_ble_eq_true rfl, Nat.le_of_ble_eq_true rfl⟩) (fun _ _ _ => gj_P0) rfl rfl (Nat.le_of_ble_eq_true rfl) d_M_deliver_62 ⟨Nat.zero_le _, Nat.zero_le _⟩ ?_
        refine gj_lload (pc := 65) cx d_M_deliver_65 (x := rSd S n y t) rfl ?_
        refine gj_callVWi (pc := 67) (As := [.int (nI (fstB (rPd S n t y) n 0)), .int (nI y), .int (nI (t / 35)), .int (nI (tA t)), .int (nI (tQ t)), .long (rSd S n y t)]) (rest := []) (v := (rRecvC S n f z (fstB (rPd S n t y) n 0) y (nI (t / 35)) (nI (tA t)) (nI (tQ t)) (rSd S n y t)).1) (ws' := rW cI cJ am n f z ((rRecvC S n f z (fstB (rPd S n t y) n 0) y (nI (t / 35)) (nI (tA t)) (nI (tQ t)) (rSd S n y t)).2)) cx hK hA (fun sz => c_M_receive l D cI cJ am n f z S (fstB (rPd S n t y) n 0) y (nI (t / 35)) (nI (tA t)) (nI (tQ t)) (rSd S n y t) (by omega) (hok) (by omega) (by omega) (by omega) (hiv.2 _ (by omega)) sz) (cwV 6 cx.2.2.2.2 (good_V wm_437 wm_435 wm_436 wm_564 wm_5) rfl rfl rfl (by decide +kernel) ⟨Nat.le_of_ble_eq_true rfl, Nat.le_of_ble_eq_true rfl⟩) gj_J.self 0 2 rfl rfl rfl rfl rfl (Nat.le_of_ble_eq_true rfl) d_M_deliver_67 ⟨Nat.zero_le _, Nat.zero_le _⟩ ?_
        refine gj_pop (pc := 70) cx d_M_deliver_70 rfl ?_
        refine gj_iconst (pc := 71) cx d_M_deliver_71 (v := nI 1) (by decide) ?_
        exact gj_zretW (pc := 72) cx hr hlk d_M_deliver_72 rfl (by rw [rDlv_t (by omega) (by omega) (by omega) hF2]; rfl) (by rw [rDlv_t (by omega) (by omega) (by omega) hF2])

set_option maxRecDepth 100000 in
set_option maxHeartbeats 4000000 in
theorem c_M_pump (l : Launch) (D : va_G) (cI cJ : ClassId) (am : Nat → Nat) (n f : Nat) (z : Int64) (S : RS) (kd : Int32) (hn : n ≤ 7) (hiv : rInv n S) (hf : f ≤ 7) (sz : Nat) : MWi l y_M_pump (wsM y_M_pump b_M_pump 3 (some .int)) { frames := 6, cells := 0, slots := 0, locals := 160 } D vwK (tyl cI cJ) (rW cI cJ am n f z S) (rW cI cJ am n f z ((rPumpC S n f z kd).2)) sz [.ref (am 0), .int kd] ((rPumpC S n f z kd).1) := by
  refine gj_enterW (own := R_M) (by decide) rfl (Nat.le_of_ble_eq_true rfl) rfl rfl (fun p e s m below meth c cx hr hlk hK hsz => ?_)
  have hA : ∀ q, s.heap.size ≤ q → va_A (rW cI cJ am n f z S) sz q := fun q h => Or.inr (hsz ▸ h)
  refine gj_iload_n (pc := 0) cx d_M_pump_0 rfl (x := kd) rfl ?_
  refine gj_iconst (pc := 1) cx d_M_pump_1 (v := nI 1) (by decide) ?_
  refine gj_icmp_lt (pc := 2) cx d_M_pump_2 (tgt := 11) rfl (fun hb1 => ?_) (fun hb1 => ?_)
  · refine gj_iconst (pc := 11) cx d_M_pump_11 (v := (-1)) (by decide) ?_
    exact gj_iretW (pc := 12) cx hr hlk d_M_pump_12 (by rw [rPumpC, if_neg (fun z => z.1 hb1)] <;> rfl) (by rw [rPumpC, if_neg (fun z => z.1 hb1)] <;> rfl)
  · refine gj_iload_n (pc := 5) cx d_M_pump_5 rfl (x := kd) rfl ?_
    refine gj_bipush (pc := 6) cx d_M_pump_6 (v := nI 8) (by decide) ?_
    refine gj_icmp_le (pc := 8) cx d_M_pump_8 (tgt := 13) rfl (fun hb2 => ?_) (fun hb2 => ?_)
    · obtain ⟨k, hk, rfl⟩ := nI_of2 (M := 8) (n := 8) (by decide) (fun z => hb1 (Int32.lt_of_lt_of_le z (by decide))) hb2
      rw [show rPumpC S n f z (nI k) = (nI (rPump n f z k 0 S).1, (rPump n f z k 0 S).2) by rw [rPumpC, if_pos ⟨hb1, hb2⟩, xN_nI (by omega)]]
      refine gj_iconst (pc := 13) cx d_M_pump_13 (v := nI 0) (by decide) ?_
      refine gj_istore_n (pc := 14) cx d_M_pump_14 rfl (lo' := [(2, .int (nI 0)), (0, .ref (am 0)), (1, .int (nI k))]) (by decide) rfl ?_
      refine gj_pick (lo' := [(0, .ref (am 0)), (1, .int (nI k)), (2, .int (nI 0))]) [1, 2, 0] rfl ?_
      refine gj_forS (G := Gj p l e _ s m _ below meth c _ _ _ _ _) (σ := RS) (fun i Z => rPump n f z (k - i) i Z = rPump n f z k 0 S ∧ rInv n Z) k 15 (fun i _ => [(0, .ref (am 0)), (1, .int (nI k)), (2, .int (nI i))]) (fun _ Z => rW cI cJ am n f z Z) (fun i hi ih Z hq => ?_) 0 (by omega) S ⟨rfl, hiv⟩
      obtain ⟨hE, hZ⟩ := hq
      refine gj_iload_n (pc := 15) cx d_M_pump_15 rfl (x := nI i) rfl ?_
      refine gj_iload_n (pc := 16) cx d_M_pump_16 rfl (x := nI k) rfl ?_
      refine gj_icmp_geN (pc := 17) cx d_M_pump_17 (tgt := 33) rfl (by omega) (by omega) (fun hb3 => ?_) (fun hb3 => ?_)
      · refine gj_iload_n (pc := 33) cx d_M_pump_33 rfl (x := nI i) rfl ?_
        exact gj_iretW (pc := 34) cx hr hlk d_M_pump_34 (by rw [← hE, show i = k from (by omega), Nat.sub_self] <;> rfl) (by rw [← hE, show i = k from (by omega), Nat.sub_self] <;> rfl)
      · refine gj_aload_n (pc := 20) cx d_M_pump_20 rfl (x := am 0) rfl ?_
        refine gj_callVWi (pc := 21) (As := []) (rest := []) (v := bI ((rDlv n f z Z).1)) (ws' := rW cI cJ am n f z ((rDlv n f z Z).2)) cx hK hA (fun sz => c_M_deliver l D cI cJ am n f z Z  (by omega) (hZ.1) (hZ) (by omega) sz) (cwV 0 cx.2.2.2.2 (good_V wm_434 wm_432 wm_433 wm_563 wm_5) rfl rfl rfl (by decide +kernel) ⟨Nat.le_of_ble_eq_true rfl, Nat.le_of_ble_eq_true rfl⟩) gj_J.self 0 2 rfl rfl rfl rfl rfl (Nat.le_of_ble_eq_true rfl) d_M_pump_21 ⟨Nat.zero_le _, Nat.zero_le _⟩ ?_
        refine gj_if_eqB (pc := 24) cx d_M_pump_24 (tgt := 33) rfl (fun hb4 => ?_) (fun hb4 => ?_)
        · refine gj_iload_n (pc := 33) cx d_M_pump_33 rfl (x := nI i) rfl ?_
          exact gj_iretW (pc := 34) cx hr hlk d_M_pump_34 (by rw [← hE, (rPump_end hb4).1]) (by rw [← hE, (rPump_end hb4).1, (rPump_end (m := 0) (k := 0) hb4).2])
        · refine gj_iincN (pc := 27) cx d_M_pump_27 (k := 2) (d := 1) (lo' := [(2, .int (nI (i + 1))), (0, .ref (am 0)), (1, .int (nI k))]) rfl (by decide) (by decide) rfl ?_
          refine gj_goto (pc := 30) cx d_M_pump_30 (tgt := 15) rfl ?_
          refine gj_pick (lo' := [(0, .ref (am 0)), (1, .int (nI k)), (2, .int (nI (i + 1)))]) [1, 2, 0] rfl ?_
          exact ih (by omega) _ ⟨(rPump_step (by omega) hb4).symm.trans hE, rInv_dlv hn hZ⟩
    · refine gj_iconst (pc := 11) cx d_M_pump_11 (v := (-1)) (by decide) ?_
      exact gj_iretW (pc := 12) cx hr hlk d_M_pump_12 (by rw [rPumpC, if_neg (fun z => hb2 z.2)] <;> rfl) (by rw [rPumpC, if_neg (fun z => hb2 z.2)] <;> rfl)

set_option maxRecDepth 100000 in
set_option maxHeartbeats 4000000 in
theorem c_M_carry (l : Launch) (D : va_G) (cI cJ : ClassId) (am : Nat → Nat) (n f : Nat) (z : Int64) (S : RS) (fd : Int32) (td : Int32) (kd : Int32) (bd : Int32) (qd : Int32) (hn : n ≤ 7) (hok : rOk S) (hiv : rInv n S) (hf : f ≤ 7) (sz : Nat) : MWi l y_M_carry (wsM y_M_carry b_M_carry 8 (some .int)) { frames := 5, cells := 0, slots := 0, locals := 135 } D vwK (tyl cI cJ) (rW cI cJ am n f z S) (rW cI cJ am n f z ((rCarry S n f z fd td kd bd qd).2)) sz [.ref (am 0), .int fd, .int td, .int kd, .int bd, .int qd] ((rCarry S n f z fd td kd bd qd).1) := by
  refine gj_enterW (own := R_M) (by decide) rfl (Nat.le_of_ble_eq_true rfl) rfl rfl (fun p e s m below meth c cx hr hlk hK hsz => ?_)
  have hA : ∀ q, s.heap.size ≤ q → va_A (rW cI cJ am n f z S) sz q := fun q h => Or.inr (hsz ▸ h)
  refine gj_aload_n (pc := 0) cx d_M_carry_0 rfl (x := am 0) rfl ?_
  refine gj_iload_n (pc := 1) cx d_M_carry_1 rfl (x := fd) rfl ?_
  refine gj_callVRi (pc := 2) (As := [.int fd]) (rest := []) (v := bI (rCor S n fd)) cx hK (c_M_correct l D cI cJ am n f z S fd (by omega) (hok)) (cwV 1 cx.2.2.2.2 (good_V wm_380 wm_378 wm_379 wm_556 wm_5) rfl rfl rfl (by decide +kernel) ⟨Nat.le_of_ble_eq_true rfl, Nat.le_of_ble_eq_true rfl⟩) gj_wP 0 2 rfl rfl rfl rfl rfl (Nat.le_of_ble_eq_true rfl) d_M_carry_2 ⟨Nat.zero_le _, Nat.zero_le _⟩ ?_
  refine gj_if_eqB (pc := 5) cx d_M_carry_5 (tgt := 16) rfl (fun hb1 => ?_) (fun hb1 => ?_)
  · refine gj_iconst (pc := 16) cx d_M_carry_16 (v := (-1)) (by decide) ?_
    exact gj_iretW (pc := 17) cx hr hlk d_M_carry_17 (by rw [rCarry, if_neg (fun z => by rw [hb1] at z; cases z.1)] <;> rfl) (by rw [rCarry, if_neg (fun z => by rw [hb1] at z; cases z.1)] <;> rfl)
  · refine gj_aload_n (pc := 8) cx d_M_carry_8 rfl (x := am 0) rfl ?_
    refine gj_iload_n (pc := 9) cx d_M_carry_9 rfl (x := td) rfl ?_
    refine gj_callVRi (pc := 10) (As := [.int td]) (rest := []) (v := bI (rUp S n td)) cx hK (c_M_up l D cI cJ am n f z S td (by omega) (hok)) (cwV 1 cx.2.2.2.2 (good_V wm_402 wm_400 wm_401 wm_559 wm_5) rfl rfl rfl (by decide +kernel) ⟨Nat.le_of_ble_eq_true rfl, Nat.le_of_ble_eq_true rfl⟩) gj_wP 0 2 rfl rfl rfl rfl rfl (Nat.le_of_ble_eq_true rfl) d_M_carry_10 ⟨Nat.zero_le _, Nat.zero_le _⟩ ?_
    refine gj_if_neB (pc := 13) cx d_M_carry_13 (tgt := 18) rfl (fun hb2 => ?_) (fun hb2 => ?_)
    · obtain ⟨y, hy, rfl, hyc⟩ := rCor_of hn hb1
      obtain ⟨x, hx, rfl, hxu⟩ := rUp_of hn hb2
      refine gj_aload_n (pc := 18) cx d_M_carry_18 rfl (x := am 0) rfl ?_
      refine gj_iload_n (pc := 19) cx d_M_carry_19 rfl (x := nI y) rfl ?_
      refine gj_iload_n (pc := 20) cx d_M_carry_20 rfl (x := kd) rfl ?_
      refine gj_iload (pc := 21) cx d_M_carry_21 (x := bd) rfl ?_
      refine gj_iload (pc := 23) cx d_M_carry_23 (x := qd) rfl ?_
      refine gj_callVRl (pc := 25) (As := [.int (nI y), .int kd, .int bd, .int qd]) (rest := []) (v := rSaidC S n y kd bd qd) cx hK (c_M_said l D cI cJ am n f z S y kd bd qd (by omega) (hok) (by omega)) (cwV 4 cx.2.2.2.2 (good_V wm_392 wm_390 wm_391 wm_557 wm_5) rfl rfl rfl (by decide +kernel) ⟨Nat.le_of_ble_eq_true rfl, Nat.le_of_ble_eq_true rfl⟩) gj_wP 0 2 rfl rfl rfl rfl rfl (Nat.le_of_ble_eq_true rfl) d_M_carry_25 ⟨Nat.zero_le _, Nat.zero_le _⟩ ?_
      refine gj_lstore (pc := 28) cx d_M_carry_28 (lo' := [(6, .long (rSaidC S n y kd bd qd)), (0, .ref (am 0)), (1, .int (nI y)), (2, .int (nI x)), (3, .int kd), (4, .int bd), (5, .int qd)]) (by decide) rfl ?_
      refine gj_lload (pc := 30) cx d_M_carry_30 (x := rSaidC S n y kd bd qd) rfl ?_
      refine gj_lconst (pc := 32) cx d_M_carry_32 (v := 0) (by decide) ?_
      refine gj_lcmp_ge (pc := 33) cx d_M_carry_33 d_M_carry_34 (tgt := 42) rfl (fun hb3 => ?_) (fun hb3 => ?_)
      · refine gj_aload_n (pc := 42) cx d_M_carry_42 rfl (x := am 0) rfl ?_
        refine gj_iload_n (pc := 43) cx d_M_carry_43 rfl (x := nI x) rfl ?_
        refine gj_iload_n (pc := 44) cx d_M_carry_44 rfl (x := nI y) rfl ?_
        refine gj_iload_n (pc := 45) cx d_M_carry_45 rfl (x := kd) rfl ?_
        refine gj_iload (pc := 46) cx d_M_carry_46 (x := bd) rfl ?_
        refine gj_iload (pc := 48) cx d_M_carry_48 (x := qd) rfl ?_
        refine gj_lload (pc := 50) cx d_M_carry_50 (x := rSaidC S n y kd bd qd) rfl ?_
        refine gj_callVWi (pc := 52) (As := [.int (nI x), .int (nI y), .int kd, .int bd, .int qd, .long (rSaidC S n y kd bd qd)]) (rest := []) (v := (rRecvC S n f z x y kd bd qd (rSaidC S n y kd bd qd)).1) (ws' := rW cI cJ am n f z ((rRecvC S n f z x y kd bd qd (rSaidC S n y kd bd qd)).2)) cx hK hA (fun sz => c_M_receive l D cI cJ am n f z S x y kd bd qd (rSaidC S n y kd bd qd) (by omega) (hok) (by omega) (by omega) (by omega) (hiv.2 x hx) sz) (cwV 6 cx.2.2.2.2 (good_V wm_437 wm_435 wm_436 wm_564 wm_5) rfl rfl rfl (by decide +kernel) ⟨Nat.le_of_ble_eq_true rfl, Nat.le_of_ble_eq_true rfl⟩) gj_J.self 0 2 rfl rfl rfl rfl rfl (Nat.le_of_ble_eq_true rfl) d_M_carry_52 ⟨Nat.zero_le _, Nat.zero_le _⟩ ?_
        exact gj_iretW (pc := 55) cx hr hlk d_M_carry_55 (by rw [rCarry, if_pos ⟨hb1, hb2⟩, xN_nI (show x < 2147483648 by omega), xN_nI (show y < 2147483648 by omega), if_neg (Int64.not_lt.mpr hb3)] <;> rfl) (by rw [rCarry, if_pos ⟨hb1, hb2⟩, xN_nI (show x < 2147483648 by omega), xN_nI (show y < 2147483648 by omega), if_neg (Int64.not_lt.mpr hb3)] <;> rfl)
      · refine gj_bipush (pc := 37) cx d_M_carry_37 (v := (-2)) (by decide) ?_
        refine gj_goto (pc := 39) cx d_M_carry_39 (tgt := 55) rfl ?_
        exact gj_iretW (pc := 55) cx hr hlk d_M_carry_55 (by rw [rCarry, if_pos ⟨hb1, hb2⟩, xN_nI (show y < 2147483648 by omega), if_pos (Int64.not_le.mp hb3)] <;> rfl) (by rw [rCarry, if_pos ⟨hb1, hb2⟩, xN_nI (show y < 2147483648 by omega), if_pos (Int64.not_le.mp hb3)] <;> rfl)
    · refine gj_iconst (pc := 16) cx d_M_carry_16 (v := (-1)) (by decide) ?_
      exact gj_iretW (pc := 17) cx hr hlk d_M_carry_17 (by rw [rCarry, if_neg (fun z => by rw [hb2] at z; cases z.2)] <;> rfl) (by rw [rCarry, if_neg (fun z => by rw [hb2] at z; cases z.2)] <;> rfl)

set_option maxRecDepth 100000 in
set_option maxHeartbeats 4000000 in
theorem c_M_forge (l : Launch) (D : va_G) (cI cJ : ClassId) (am : Nat → Nat) (n f : Nat) (z : Int64) (S : RS) (fd : Int32) (td : Int32) (hd : Int32) (pp : Int64) (hn : n ≤ 7) (hok : rOk S) (hiv : rInv n S) (hf : f ≤ 7) (sz : Nat) : MWi l y_M_forge (wsM y_M_forge b_M_forge 6 (some .int)) { frames := 5, cells := 0, slots := 0, locals := 135 } D vwK (tyl cI cJ) (rW cI cJ am n f z S) (rW cI cJ am n f z ((rForge S n f z fd td hd pp).2)) sz [.ref (am 0), .int fd, .int td, .int hd, .long pp] ((rForge S n f z fd td hd pp).1) := by
  refine gj_enterW (own := R_M) (by decide) rfl (Nat.le_of_ble_eq_true rfl) rfl rfl (fun p e s m below meth c cx hr hlk hK hsz => ?_)
  have hA : ∀ q, s.heap.size ≤ q → va_A (rW cI cJ am n f z S) sz q := fun q h => Or.inr (hsz ▸ h)
  refine gj_iload_n (pc := 0) cx d_M_forge_0 rfl (x := fd) rfl ?_
  refine gj_if_lt (pc := 1) cx d_M_forge_1 (tgt := 30) rfl (fun hb1 => ?_) (fun hb1 => ?_)
  · refine gj_iconst (pc := 30) cx d_M_forge_30 (v := (-1)) (by decide) ?_
    exact gj_iretW (pc := 31) cx hr hlk d_M_forge_31 (by rw [rForge, rState_f (isN_f1 hb1), if_neg (fun z => absurd z.1 (by decide))] <;> rfl) (by rw [rForge, rState_f (isN_f1 hb1), if_neg (fun z => absurd z.1 (by decide))] <;> rfl)
  · refine gj_iload_n (pc := 4) cx d_M_forge_4 rfl (x := fd) rfl ?_
    refine gj_aload_n (pc := 5) cx d_M_forge_5 rfl (x := am 0) rfl ?_
    refine gj_get (pc := 6) (ci := 2) (C := R_M) (T := T_M) (N := 15) (v := .int (nI n)) cx hK gj_wP in_M d_M_forge_6 0 rfl rfl 0 (by decide) (in_WT wm_341) rfl ?_
    refine gj_icmp_ge (pc := 9) cx d_M_forge_9 (tgt := 30) rfl (fun hb2 => ?_) (fun hb2 => ?_)
    · refine gj_iconst (pc := 30) cx d_M_forge_30 (v := (-1)) (by decide) ?_
      exact gj_iretW (pc := 31) cx hr hlk d_M_forge_31 (by rw [rForge, rState_f (isN_f2 hb2), if_neg (fun z => absurd z.1 (by decide))] <;> rfl) (by rw [rForge, rState_f (isN_f2 hb2), if_neg (fun z => absurd z.1 (by decide))] <;> rfl)
    · obtain ⟨y, hy, rfl⟩ := isN_of hn (isN_t hb1 hb2)
      refine gj_aload_n (pc := 12) cx d_M_forge_12 rfl (x := am 0) rfl ?_
      refine gj_get (pc := 13) (ci := 2) (C := R_M) (T := T_M) (N := 15) (v := .ref (am 1)) cx hK gj_wP in_M d_M_forge_13 0 rfl rfl 3 (by decide) (in_WT wm_344) rfl ?_
      refine gj_iload_n (pc := 16) cx d_M_forge_16 rfl (x := nI y) rfl ?_
      refine gj_ialdN (pc := 17) (i := y) (f := rSt S) cx hK gj_wP d_M_forge_17 1 0 rfl rfl (by omega) (by decide) ?_
      have hv3 := hok.1 y
      refine gj_iconst (pc := 18) cx d_M_forge_18 (v := nI 2) (by decide) ?_
      refine gj_icmp_neN (pc := 19) cx d_M_forge_19 (tgt := 30) rfl (by omega) (by omega) (fun hb4 => ?_) (fun hb4 => ?_)
      · refine gj_iconst (pc := 30) cx d_M_forge_30 (v := (-1)) (by decide) ?_
        exact gj_iretW (pc := 31) cx hr hlk d_M_forge_31 (by rw [rForge, rState_N hn hy, if_neg (fun z => hb4 ((nI_eq (by have := hok.1 y; omega) (by omega)).mp z.1))] <;> rfl) (by rw [rForge, rState_N hn hy, if_neg (fun z => hb4 ((nI_eq (by have := hok.1 y; omega) (by omega)).mp z.1))] <;> rfl)
      · refine gj_aload_n (pc := 22) cx d_M_forge_22 rfl (x := am 0) rfl ?_
        refine gj_iload_n (pc := 23) cx d_M_forge_23 rfl (x := td) rfl ?_
        refine gj_callVRi (pc := 24) (As := [.int td]) (rest := []) (v := bI (rUp S n td)) cx hK (c_M_up l D cI cJ am n f z S td (by omega) (hok)) (cwV 1 cx.2.2.2.2 (good_V wm_402 wm_400 wm_401 wm_559 wm_5) rfl rfl rfl (by decide +kernel) ⟨Nat.le_of_ble_eq_true rfl, Nat.le_of_ble_eq_true rfl⟩) gj_wP 0 2 rfl rfl rfl rfl rfl (Nat.le_of_ble_eq_true rfl) d_M_forge_24 ⟨Nat.zero_le _, Nat.zero_le _⟩ ?_
        refine gj_if_neB (pc := 27) cx d_M_forge_27 (tgt := 32) rfl (fun hb5 => ?_) (fun hb5 => ?_)
        · obtain ⟨x, hx, rfl, hxu⟩ := rUp_of hn hb5
          refine gj_aload_n (pc := 32) cx d_M_forge_32 rfl (x := am 0) rfl ?_
          refine gj_iload_n (pc := 33) cx d_M_forge_33 rfl (x := nI x) rfl ?_
          refine gj_iload_n (pc := 34) cx d_M_forge_34 rfl (x := nI y) rfl ?_
          refine gj_iload_n (pc := 35) cx d_M_forge_35 rfl (x := hd) rfl ?_
          refine gj_bipush (pc := 36) cx d_M_forge_36 (v := nI 7) (by decide) ?_
          refine gj_iand (pc := 38) cx d_M_forge_38 ?_
          refine gj_iload_n (pc := 39) cx d_M_forge_39 rfl (x := hd) rfl ?_
          refine gj_iconst (pc := 40) cx d_M_forge_40 (v := nI 3) (by decide) ?_
          refine gj_ishr (pc := 41) cx d_M_forge_41 ?_
          refine gj_bipush (pc := 42) cx d_M_forge_42 (v := nI 7) (by decide) ?_
          refine gj_iand (pc := 44) cx d_M_forge_44 ?_
          refine gj_iload_n (pc := 45) cx d_M_forge_45 rfl (x := hd) rfl ?_
          refine gj_bipush (pc := 46) cx d_M_forge_46 (v := nI 6) (by decide) ?_
          refine gj_ishr (pc := 48) cx d_M_forge_48 ?_
          refine gj_lload (pc := 49) cx d_M_forge_49 (x := pp) rfl ?_
          refine gj_callVWi (pc := 51) (As := [.int (nI x), .int (nI y), .int (hd &&& (nI 7)), .int ((hd >>> ((nI 3) &&& 31)) &&& (nI 7)), .int (hd >>> ((nI 6) &&& 31)), .long pp]) (rest := []) (v := (rRecvC S n f z x y (hd &&& (nI 7)) ((hd >>> ((nI 3) &&& 31)) &&& (nI 7)) (hd >>> ((nI 6) &&& 31)) pp).1) (ws' := rW cI cJ am n f z ((rRecvC S n f z x y (hd &&& (nI 7)) ((hd >>> ((nI 3) &&& 31)) &&& (nI 7)) (hd >>> ((nI 6) &&& 31)) pp).2)) cx hK hA (fun sz => c_M_receive l D cI cJ am n f z S x y (hd &&& (nI 7)) ((hd >>> ((nI 3) &&& 31)) &&& (nI 7)) (hd >>> ((nI 6) &&& 31)) pp (by omega) (hok) (by omega) (by omega) (by omega) (hiv.2 x hx) sz) (cwV 6 cx.2.2.2.2 (good_V wm_437 wm_435 wm_436 wm_564 wm_5) rfl rfl rfl (by decide +kernel) ⟨Nat.le_of_ble_eq_true rfl, Nat.le_of_ble_eq_true rfl⟩) gj_J.self 0 2 rfl rfl rfl rfl rfl (Nat.le_of_ble_eq_true rfl) d_M_forge_51 ⟨Nat.zero_le _, Nat.zero_le _⟩ ?_
          exact gj_iretW (pc := 54) cx hr hlk d_M_forge_54 (by rw [rForge, rState_N hn hy, if_pos ⟨congrArg nI hb4, hb5⟩, xN_nI (show x < 2147483648 by omega), xN_nI (show y < 2147483648 by omega)] <;> rfl) (by rw [rForge, rState_N hn hy, if_pos ⟨congrArg nI hb4, hb5⟩, xN_nI (show x < 2147483648 by omega), xN_nI (show y < 2147483648 by omega)] <;> rfl)
        · refine gj_iconst (pc := 30) cx d_M_forge_30 (v := (-1)) (by decide) ?_
          exact gj_iretW (pc := 31) cx hr hlk d_M_forge_31 (by rw [rForge, if_neg (fun z => by rw [hb5] at z; cases z.2)] <;> rfl) (by rw [rForge, if_neg (fun z => by rw [hb5] at z; cases z.2)] <;> rfl)
