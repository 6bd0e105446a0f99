/-! Contracts of Node, first part, laid by wip/gen/m_node.py -/
set_option maxRecDepth 100000 in
set_option maxHeartbeats 4000000 in
theorem c_N_condition (l : Launch) (D : va_G) (cI cJ : ClassId) (a : Nat → Nat) (me n f : Nat) (u : NS)   : MRi l y_N_condition (wsM y_N_condition b_N_condition 1 (some .int)) { frames := 0, cells := 0, slots := 0, locals := 0 } D vwK (tyl cI cJ) (nW cI cJ a me n f u) [.ref (a 0)] (nI (nCo u)) := by
  refine gj_enterR (own := R_N) (by decide) rfl (Nat.le_of_ble_eq_true rfl) rfl rfl (fun p e s m below meth c cx hr hlk hK => ?_)
  refine gj_aload_n (pc := 0) cx d_N_condition_0 rfl (x := a 0) rfl ?_
  refine gj_get (pc := 1) (ci := 0) (C := R_N) (T := T_N) (N := 12) (v := .int (nI (nCo u))) cx hK gj_rP in_N d_N_condition_1 0 rfl rfl 3 (by decide) (in_WT wm_36) rfl ?_
  exact gj_iretR (pc := 4) cx hr hlk d_N_condition_4 (rfl)

set_option maxRecDepth 100000 in
set_option maxHeartbeats 4000000 in
theorem c_N_said (l : Launch) (D : va_G) (cI cJ : ClassId) (a : Nat → Nat) (me n f : Nat) (u : NS) (t : Nat) (ht : t < 141) : MRl l y_N_said (wsM y_N_said b_N_said 2 (some .long)) { frames := 0, cells := 0, slots := 0, locals := 0 } D vwK (tyl cI cJ) (nW cI cJ a me n f u) [.ref (a 0), .int (nI t)] (nSa u t) := by
  refine gj_enterR (own := R_N) (by decide) rfl (Nat.le_of_ble_eq_true rfl) rfl rfl (fun p e s m below meth c cx hr hlk hK => ?_)
  refine gj_aload_n (pc := 0) cx d_N_said_0 rfl (x := a 0) rfl ?_
  refine gj_get (pc := 1) (ci := 0) (C := R_N) (T := T_N) (N := 12) (v := .ref (a 1)) cx hK gj_rP in_N d_N_said_1 0 rfl rfl 6 (by decide) (in_WT wm_39) rfl ?_
  refine gj_iload_n (pc := 4) cx d_N_said_4 rfl (x := nI t) rfl ?_
  refine gj_lald (pc := 5) (i := t) (f := nSa u) cx hK gj_rP d_N_said_5 1 1 rfl rfl (by omega) (by decide) ?_
  exact gj_lretR (pc := 6) cx hr hlk d_N_said_6 (rfl)

set_option maxRecDepth 100000 in
set_option maxHeartbeats 4000000 in
theorem c_N_acceptedFor (l : Launch) (D : va_G) (cI cJ : ClassId) (a : Nat → Nat) (me n f : Nat) (u : NS) (i : Nat) (hi : i < 35) : MRl l y_N_acceptedFor (wsM y_N_acceptedFor b_N_acceptedFor 2 (some .long)) { frames := 0, cells := 0, slots := 0, locals := 0 } D vwK (tyl cI cJ) (nW cI cJ a me n f u) [.ref (a 0), .int (nI i)] (nAc u i) := by
  refine gj_enterR (own := R_N) (by decide) rfl (Nat.le_of_ble_eq_true rfl) rfl rfl (fun p e s m below meth c cx hr hlk hK => ?_)
  refine gj_aload_n (pc := 0) cx d_N_acceptedFor_0 rfl (x := a 0) rfl ?_
  refine gj_get (pc := 1) (ci := 0) (C := R_N) (T := T_N) (N := 12) (v := .ref (a 6)) cx hK gj_rP in_N d_N_acceptedFor_1 0 rfl rfl 11 (by decide) (in_WT wm_44) rfl ?_
  refine gj_iload_n (pc := 4) cx d_N_acceptedFor_4 rfl (x := nI i) rfl ?_
  refine gj_lald (pc := 5) (i := i) (f := nAc u) cx hK gj_rP d_N_acceptedFor_5 6 1 rfl rfl (by omega) (by decide) ?_
  exact gj_lretR (pc := 6) cx hr hlk d_N_acceptedFor_6 (rfl)

set_option maxRecDepth 100000 in
set_option maxHeartbeats 4000000 in
theorem c_N_appliedOf (l : Launch) (D : va_G) (cI cJ : ClassId) (a : Nat → Nat) (me n f : Nat) (u : NS) (b : Nat) (hb : b < 7) : MRi l y_N_appliedOf (wsM y_N_appliedOf b_N_appliedOf 2 (some .int)) { frames := 0, cells := 0, slots := 0, locals := 0 } D vwK (tyl cI cJ) (nW cI cJ a me n f u) [.ref (a 0), .int (nI b)] (nI (nCn u b)) := by
  refine gj_enterR (own := R_N) (by decide) rfl (Nat.le_of_ble_eq_true rfl) rfl rfl (fun p e s m below meth c cx hr hlk hK => ?_)
  refine gj_aload_n (pc := 0) cx d_N_appliedOf_0 rfl (x := a 0) rfl ?_
  refine gj_get (pc := 1) (ci := 0) (C := R_N) (T := T_N) (N := 12) (v := .ref (a 2)) cx hK gj_rP in_N d_N_appliedOf_1 0 rfl rfl 7 (by decide) (in_WT wm_40) rfl ?_
  refine gj_iload_n (pc := 4) cx d_N_appliedOf_4 rfl (x := nI b) rfl ?_
  refine gj_ialdN (pc := 5) (i := b) (f := nCn u) cx hK gj_rP d_N_appliedOf_5 2 0 rfl rfl (by omega) (by decide) ?_
  exact gj_iretR (pc := 6) cx hr hlk d_N_appliedOf_6 (rfl)

set_option maxRecDepth 100000 in
set_option maxHeartbeats 4000000 in
theorem c_N_balanceOf (l : Launch) (D : va_G) (cI cJ : ClassId) (a : Nat → Nat) (me n f : Nat) (u : NS) (b : Nat) (hb : b < 7) : MRl l y_N_balanceOf (wsM y_N_balanceOf b_N_balanceOf 2 (some .long)) { frames := 0, cells := 0, slots := 0, locals := 0 } D vwK (tyl cI cJ) (nW cI cJ a me n f u) [.ref (a 0), .int (nI b)] (nBa u b) := by
  refine gj_enterR (own := R_N) (by decide) rfl (Nat.le_of_ble_eq_true rfl) rfl rfl (fun p e s m below meth c cx hr hlk hK => ?_)
  refine gj_aload_n (pc := 0) cx d_N_balanceOf_0 rfl (x := a 0) rfl ?_
  refine gj_get (pc := 1) (ci := 0) (C := R_N) (T := T_N) (N := 12) (v := .ref (a 4)) cx hK gj_rP in_N d_N_balanceOf_1 0 rfl rfl 9 (by decide) (in_WT wm_42) rfl ?_
  refine gj_iload_n (pc := 4) cx d_N_balanceOf_4 rfl (x := nI b) rfl ?_
  refine gj_lald (pc := 5) (i := b) (f := nBa u) cx hK gj_rP d_N_balanceOf_5 4 1 rfl rfl (by omega) (by decide) ?_
  exact gj_lretR (pc := 6) cx hr hlk d_N_balanceOf_6 (rfl)

set_option maxRecDepth 100000 in
set_option maxHeartbeats 4000000 in
theorem c_N_freedOf (l : Launch) (D : va_G) (cI cJ : ClassId) (a : Nat → Nat) (me n f : Nat) (u : NS) (b : Nat) (hb : b < 7) : MRi l y_N_freedOf (wsM y_N_freedOf b_N_freedOf 2 (some .int)) { frames := 0, cells := 0, slots := 0, locals := 0 } D vwK (tyl cI cJ) (nW cI cJ a me n f u) [.ref (a 0), .int (nI b)] (nI (nFr u b)) := by
  refine gj_enterR (own := R_N) (by decide) rfl (Nat.le_of_ble_eq_true rfl) rfl rfl (fun p e s m below meth c cx hr hlk hK => ?_)
  refine gj_aload_n (pc := 0) cx d_N_freedOf_0 rfl (x := a 0) rfl ?_
  refine gj_get (pc := 1) (ci := 0) (C := R_N) (T := T_N) (N := 12) (v := .ref (a 3)) cx hK gj_rP in_N d_N_freedOf_1 0 rfl rfl 8 (by decide) (in_WT wm_41) rfl ?_
  refine gj_iload_n (pc := 4) cx d_N_freedOf_4 rfl (x := nI b) rfl ?_
  refine gj_ialdN (pc := 5) (i := b) (f := nFr u) cx hK gj_rP d_N_freedOf_5 3 0 rfl rfl (by omega) (by decide) ?_
  exact gj_iretR (pc := 6) cx hr hlk d_N_freedOf_6 (rfl)

set_option maxRecDepth 100000 in
set_option maxHeartbeats 4000000 in
theorem c_N_turnFaulty (l : Launch) (D : va_G) (cI cJ : ClassId) (a : Nat → Nat) (me n f : Nat) (u : NS)   (sz : Nat) : MWv l y_N_turnFaulty (wsM y_N_turnFaulty b_N_turnFaulty 1 none) { frames := 0, cells := 0, slots := 0, locals := 0 } D vwK (tyl cI cJ) (nW cI cJ a me n f u) (nW cI cJ a me n f (sCo u 2)) sz [.ref (a 0)] := by
  refine gj_enterW (own := R_N) (by decide) rfl (Nat.le_of_ble_eq_true rfl) rfl rfl (fun p e s m below meth c cx hr hlk hK hsz => ?_)
  have hA : ∀ q, s.heap.size ≤ q → va_A (nW cI cJ a me n f u) sz q := fun q h => Or.inr (hsz ▸ h)
  refine gj_aload_n (pc := 0) cx d_N_turnFaulty_0 rfl (x := a 0) rfl ?_
  refine gj_iconst (pc := 1) cx d_N_turnFaulty_1 (v := nI 2) (by decide) ?_
  refine gj_put (pc := 2) (ci := 0) (C := R_N) (T := T_N) (N := 12) (ty := .int) (v := .int (nI 2)) (ws' := nW cI cJ a me n f (2, nFu u, nSu u, nSa u, nCn u, nFr u, nBa u, nTo u, nAc u)) cx hK in_N ty_N ty_N_ok nm_N d_N_turnFaulty_2 0 rfl rfl 3 (by decide) (in_WT wm_36) rfl (by decide +kernel) rfl rfl (Nat.le_of_ble_eq_true rfl) rfl ?_
  exact gj_vretW (pc := 5) cx hr hlk d_N_turnFaulty_5 (rfl)

set_option maxRecDepth 100000 in
set_option maxHeartbeats 4000000 in
theorem c_N_comeUp (l : Launch) (D : va_G) (cI cJ : ClassId) (a : Nat → Nat) (me n f : Nat) (u : NS)   (sz : Nat) : MWv l y_N_comeUp (wsM y_N_comeUp b_N_comeUp 1 none) { frames := 0, cells := 0, slots := 0, locals := 0 } D vwK (tyl cI cJ) (nW cI cJ a me n f u) (nW cI cJ a me n f (sCo u 0)) sz [.ref (a 0)] := by
  refine gj_enterW (own := R_N) (by decide) rfl (Nat.le_of_ble_eq_true rfl) rfl rfl (fun p e s m below meth c cx hr hlk hK hsz => ?_)
  have hA : ∀ q, s.heap.size ≤ q → va_A (nW cI cJ a me n f u) sz q := fun q h => Or.inr (hsz ▸ h)
  refine gj_aload_n (pc := 0) cx d_N_comeUp_0 rfl (x := a 0) rfl ?_
  refine gj_iconst (pc := 1) cx d_N_comeUp_1 (v := nI 0) (by decide) ?_
  refine gj_put (pc := 2) (ci := 0) (C := R_N) (T := T_N) (N := 12) (ty := .int) (v := .int (nI 0)) (ws' := nW cI cJ a me n f (0, nFu u, nSu u, nSa u, nCn u, nFr u, nBa u, nTo u, nAc u)) cx hK in_N ty_N ty_N_ok nm_N d_N_comeUp_2 0 rfl rfl 3 (by decide) (in_WT wm_36) rfl (by decide +kernel) rfl rfl (Nat.le_of_ble_eq_true rfl) rfl ?_
  exact gj_vretW (pc := 5) cx hr hlk d_N_comeUp_5 (rfl)

set_option maxRecDepth 100000 in
set_option maxHeartbeats 4000000 in
theorem c_N_setFuse (l : Launch) (D : va_G) (cI cJ : ClassId) (a : Nat → Nat) (me n f : Nat) (u : NS) (k : Nat)  (sz : Nat) : MWv l y_N_setFuse (wsM y_N_setFuse b_N_setFuse 2 none) { frames := 0, cells := 0, slots := 0, locals := 0 } D vwK (tyl cI cJ) (nW cI cJ a me n f u) (nW cI cJ a me n f (sFu u k)) sz [.ref (a 0), .int (nI k)] := by
  refine gj_enterW (own := R_N) (by decide) rfl (Nat.le_of_ble_eq_true rfl) rfl rfl (fun p e s m below meth c cx hr hlk hK hsz => ?_)
  have hA : ∀ q, s.heap.size ≤ q → va_A (nW cI cJ a me n f u) sz q := fun q h => Or.inr (hsz ▸ h)
  refine gj_aload_n (pc := 0) cx d_N_setFuse_0 rfl (x := a 0) rfl ?_
  refine gj_iload_n (pc := 1) cx d_N_setFuse_1 rfl (x := nI k) rfl ?_
  refine gj_put (pc := 2) (ci := 0) (C := R_N) (T := T_N) (N := 12) (ty := .int) (v := .int (nI k)) (ws' := nW cI cJ a me n f (nCo u, k, nSu u, nSa u, nCn u, nFr u, nBa u, nTo u, nAc u)) cx hK in_N ty_N ty_N_ok nm_N d_N_setFuse_2 0 rfl rfl 4 (by decide) (in_WT wm_37) rfl (by decide +kernel) rfl rfl (Nat.le_of_ble_eq_true rfl) rfl ?_
  exact gj_vretW (pc := 5) cx hr hlk d_N_setFuse_5 (rfl)

set_option maxRecDepth 100000 in
set_option maxHeartbeats 4000000 in
theorem c_N_goDown (l : Launch) (D : va_G) (cI cJ : ClassId) (a : Nat → Nat) (me n f : Nat) (u : NS)   (sz : Nat) : MWv l y_N_goDown (wsM y_N_goDown b_N_goDown 1 none) { frames := 1, cells := 0, slots := 0, locals := 24 } D vwK (tyl cI cJ) (nW cI cJ a me n f u) (nW cI cJ a me n f (nDown u)) sz [.ref (a 0)] := by
  refine gj_enterW (own := R_N) (by decide) rfl (Nat.le_of_ble_eq_true rfl) rfl rfl (fun p e s m below meth c cx hr hlk hK hsz => ?_)
  have hA : ∀ q, s.heap.size ≤ q → va_A (nW cI cJ a me n f u) sz q := fun q h => Or.inr (hsz ▸ h)
  refine gj_aload_n (pc := 0) cx d_N_goDown_0 rfl (x := a 0) rfl ?_
  refine gj_iconst (pc := 1) cx d_N_goDown_1 (v := nI 1) (by decide) ?_
  refine gj_put (pc := 2) (ci := 0) (C := R_N) (T := T_N) (N := 12) (ty := .int) (v := .int (nI 1)) (ws' := nW cI cJ a me n f (1, nFu u, nSu u, nSa u, nCn u, nFr u, nBa u, nTo u, nAc u)) cx hK in_N ty_N ty_N_ok nm_N d_N_goDown_2 0 rfl rfl 3 (by decide) (in_WT wm_36) rfl (by decide +kernel) rfl rfl (Nat.le_of_ble_eq_true rfl) rfl ?_
  refine gj_aload_n (pc := 5) cx d_N_goDown_5 rfl (x := a 0) rfl ?_
  refine gj_iconst (pc := 6) cx d_N_goDown_6 (v := nI 0) (by decide) ?_
  refine gj_put (pc := 7) (ci := 0) (C := R_N) (T := T_N) (N := 12) (ty := .int) (v := .int (nI 0)) (ws' := nW cI cJ a me n f (1, 0, nSu u, nSa u, nCn u, nFr u, nBa u, nTo u, nAc u)) cx hK in_N ty_N ty_N_ok nm_N d_N_goDown_7 0 rfl rfl 4 (by decide) (in_WT wm_37) rfl (by decide +kernel) rfl rfl (Nat.le_of_ble_eq_true rfl) rfl ?_
  refine gj_aload_n (pc := 10) cx d_N_goDown_10 rfl (x := a 0) rfl ?_
  refine gj_get (pc := 11) (ci := 0) (C := R_N) (T := T_N) (N := 12) (v := .ref (a 5)) cx hK gj_wP in_N d_N_goDown_11 0 rfl rfl 10 (by decide) (in_WT wm_43) rfl ?_
  refine gj_ldc2 (pc := 14) cx d_N_goDown_14 (v := (-1)) (in_WT wm_29) ?_
  refine gj_callSWv (pc := 17) (As := [.ref (a 5), .long (-1)]) (rest := []) (wc := [(a 5, .inl (cJ, 987, .inr (.inl (nTo u))))]) (wc' := [(a 5, .inl (cJ, 987, .inr (.inl (fun _ => (-1)))))]) (ws' := nW cI cJ a me n f (1, 0, nSu u, nSa u, nCn u, nFr u, nBa u, (fun _ => (-1)), nAc u)) cx hK hA (fun sz => c_JA_fill l D (tyl cI cJ) 1 cJ rfl (a 5) 987 (by decide) (nTo u) (-1) sz) (va_cwS 2 cx.2.2.2.2 (good_S wm_32 wm_30 wm_31 wm_4) rfl rfl rfl (by decide +kernel) ⟨Nat.le_of_ble_eq_true rfl, Nat.le_of_ble_eq_true rfl⟩) (gj_J.one (k := 5) rfl) rfl rfl (Nat.le_of_ble_eq_true rfl) d_N_goDown_17 ⟨Nat.zero_le _, Nat.zero_le _⟩ ?_
  refine gj_aload_n (pc := 20) cx d_N_goDown_20 rfl (x := a 0) rfl ?_
  refine gj_get (pc := 21) (ci := 0) (C := R_N) (T := T_N) (N := 12) (v := .ref (a 6)) cx hK gj_wP in_N d_N_goDown_21 0 rfl rfl 11 (by decide) (in_WT wm_44) rfl ?_
  refine gj_ldc2 (pc := 24) cx d_N_goDown_24 (v := (-1)) (in_WT wm_29) ?_
  refine gj_callSWv (pc := 27) (As := [.ref (a 6), .long (-1)]) (rest := []) (wc := [(a 6, .inl (cJ, 35, .inr (.inl (nAc u))))]) (wc' := [(a 6, .inl (cJ, 35, .inr (.inl (fun _ => (-1)))))]) (ws' := nW cI cJ a me n f (1, 0, nSu u, nSa u, nCn u, nFr u, nBa u, (fun _ => (-1)), (fun _ => (-1)))) cx hK hA (fun sz => c_JA_fill l D (tyl cI cJ) 1 cJ rfl (a 6) 35 (by decide) (nAc u) (-1) sz) (va_cwS 2 cx.2.2.2.2 (good_S wm_32 wm_30 wm_31 wm_4) rfl rfl rfl (by decide +kernel) ⟨Nat.le_of_ble_eq_true rfl, Nat.le_of_ble_eq_true rfl⟩) (gj_J.one (k := 6) rfl) rfl rfl (Nat.le_of_ble_eq_true rfl) d_N_goDown_27 ⟨Nat.zero_le _, Nat.zero_le _⟩ ?_
  exact gj_vretW (pc := 30) cx hr hlk d_N_goDown_30 (rfl)

set_option maxRecDepth 100000 in
set_option maxHeartbeats 4000000 in
theorem c_N_write (l : Launch) (D : va_G) (cI cJ : ClassId) (a : Nat → Nat) (me n f : Nat) (u : NS) (t : Nat) (pp : Int64) (hok : nOk u) (ht : t < 141) (sz : Nat) : MWi l y_N_write (wsM y_N_write b_N_write 4 (some .boolean)) { frames := 2, cells := 0, slots := 0, locals := 44 } D vwK (tyl cI cJ) (nW cI cJ a me n f u) (nW cI cJ a me n f (nWr u t pp)) sz [.ref (a 0), .int (nI t), .long pp] (bI (nWrB u)) := by
  obtain ⟨hco, hfu, hsu, hcn, hfr⟩ := id hok
  refine gj_enterW (own := R_N) (by decide) rfl (Nat.le_of_ble_eq_true rfl) rfl rfl (fun p e s m below meth c cx hr hlk hK hsz => ?_)
  have hA : ∀ q, s.heap.size ≤ q → va_A (nW cI cJ a me n f u) sz q := fun q h => Or.inr (hsz ▸ h)
  refine gj_aload_n (pc := 0) cx d_N_write_0 rfl (x := a 0) rfl ?_
  refine gj_get (pc := 1) (ci := 0) (C := R_N) (T := T_N) (N := 12) (v := .int (nI (nFu u))) cx hK gj_wP in_N d_N_write_1 0 rfl rfl 4 (by decide) (in_WT wm_37) rfl ?_
  refine gj_iconst (pc := 4) cx d_N_write_4 (v := nI 1) (by decide) ?_
  refine gj_icmp_neN (pc := 5) cx d_N_write_5 (tgt := 14) rfl (by omega) (by omega) (fun hb1 => ?_) (fun hb1 => ?_)
  · refine gj_aload_n (pc := 14) cx d_N_write_14 rfl (x := a 0) rfl ?_
    refine gj_iconst (pc := 15) cx d_N_write_15 (v := nI 0) (by decide) ?_
    refine gj_aload_n (pc := 16) cx d_N_write_16 rfl (x := a 0) rfl ?_
    refine gj_get (pc := 17) (ci := 0) (C := R_N) (T := T_N) (N := 12) (v := .int (nI (nFu u))) cx hK gj_wP in_N d_N_write_17 0 rfl rfl 4 (by decide) (in_WT wm_37) rfl ?_
    refine gj_iconst (pc := 20) cx d_N_write_20 (v := nI 1) (by decide) ?_
    refine gj_isub (pc := 21) cx d_N_write_21 ?_
    refine gj_mmax (pc := 22) cx d_N_write_22 (in_WT wm_115) (in_WT wm_21) (in_WT wm_2) (in_WT wm_22) (Nat.le_of_ble_eq_true rfl) (Nat.le_of_ble_eq_true rfl) (Nat.zero_le _) (Nat.zero_le _) ?_
    refine gj_toi (y := nI (nFu u - 1)) (fuse_max hfu) ?_
    refine gj_put (pc := 25) (ci := 0) (C := R_N) (T := T_N) (N := 12) (ty := .int) (v := .int (nI (nFu u - 1))) (ws' := nW cI cJ a me n f (nCo u, nFu u - 1, nSu u, nSa u, nCn u, nFr u, nBa u, nTo u, nAc u)) cx hK in_N ty_N ty_N_ok nm_N d_N_write_25 0 rfl rfl 4 (by decide) (in_WT wm_37) rfl (by decide +kernel) rfl rfl (Nat.le_of_ble_eq_true rfl) rfl ?_
    refine gj_aload_n (pc := 28) cx d_N_write_28 rfl (x := a 0) rfl ?_
    refine gj_get (pc := 29) (ci := 0) (C := R_N) (T := T_N) (N := 12) (v := .ref (a 1)) cx hK gj_wP in_N d_N_write_29 0 rfl rfl 6 (by decide) (in_WT wm_39) rfl ?_
    refine gj_iload_n (pc := 32) cx d_N_write_32 rfl (x := nI t) rfl ?_
    refine gj_lload_n (pc := 33) cx d_N_write_33 rfl (x := pp) rfl ?_
    refine gj_last (pc := 34) (i := t) (f := nSa u) (x := pp) (ws' := nW cI cJ a me n f (nCo u, nFu u - 1, nSu u, va_up (nSa u) t pp, nCn u, nFr u, nBa u, nTo u, nAc u)) cx hK d_N_write_34 1 1 rfl rfl (by omega) (by decide) rfl ?_
    refine gj_iconst (pc := 35) cx d_N_write_35 (v := nI 1) (by decide) ?_
    exact gj_zretW (pc := 36) cx hr hlk d_N_write_36 rfl (by simp [nWrB, hb1]; rfl) (by rw [show nWr u t pp = sSa (sFu u (nFu u - 1)) (va_up (nSa u) t pp) from if_neg hb1])
  · refine gj_aload_n (pc := 8) cx d_N_write_8 rfl (x := a 0) rfl ?_
    refine gj_callVWv (pc := 9) (As := []) (rest := []) (ws' := nW cI cJ a me n f (nDown u)) cx hK hA (fun sz => c_N_goDown l D cI cJ a me n f u   sz) (cwV 0 cx.2.2.2.2 (good_V wm_114 wm_111 wm_112 wm_113 wm_3) rfl rfl rfl (by decide +kernel) ⟨Nat.le_of_ble_eq_true rfl, Nat.le_of_ble_eq_true rfl⟩) gj_J.self 0 0 rfl rfl rfl rfl rfl (Nat.le_of_ble_eq_true rfl) d_N_write_9 ⟨Nat.zero_le _, Nat.zero_le _⟩ ?_
    refine gj_iconst (pc := 12) cx d_N_write_12 (v := nI 0) (by decide) ?_
    exact gj_zretW (pc := 13) cx hr hlk d_N_write_13 rfl (by simp [nWrB, hb1]; rfl) (by rw [show nWr u t pp = nDown u from if_pos hb1])

set_option maxRecDepth 100000 in
set_option maxHeartbeats 4000000 in
theorem c_N_countTellers (l : Launch) (D : va_G) (cI cJ : ClassId) (a : Nat → Nat) (me n f : Nat) (u : NS) (t : Nat) (hn : n ≤ 7) (ht : t < 141) : MRi l y_N_countTellers (wsM y_N_countTellers b_N_countTellers 4 (some .int)) { frames := 0, cells := 0, slots := 0, locals := 0 } D vwK (tyl cI cJ) (nW cI cJ a me n f u) [.ref (a 0), .int (nI t)] (nI (nTell u t n)) := by
  refine gj_enterR (own := R_N) (by decide) rfl (Nat.le_of_ble_eq_true rfl) rfl rfl (fun p e s m below meth c cx hr hlk hK => ?_)
  refine gj_iconst (pc := 0) cx d_N_countTellers_0 (v := nI 0) (by decide) ?_
  refine gj_istore_n (pc := 1) cx d_N_countTellers_1 rfl (lo' := [(2, .int (nI 0)), (0, .ref (a 0)), (1, .int (nI t))]) (by decide) rfl ?_
  refine gj_iconst (pc := 2) cx d_N_countTellers_2 (v := nI 0) (by decide) ?_
  refine gj_istore_n (pc := 3) cx d_N_countTellers_3 rfl (lo' := [(3, .int (nI 0)), (2, .int (nI 0)), (0, .ref (a 0)), (1, .int (nI t))]) (by decide) rfl ?_
  refine gj_pick (lo' := [(0, .ref (a 0)), (1, .int (nI t)), (2, .int (nI 0)), (3, .int (nI 0))]) [2, 3, 1, 0] rfl ?_
  refine gj_forG (G := Gj p l e _ s m _ below meth c _ _ _ _ _) n 4 (fun i => [(0, .ref (a 0)), (1, .int (nI t)), (2, .int (nI (cntB (fun y => decide (nTo u (t * 7 + y) ≠ -1)) i))), (3, .int (nI i))]) (fun i => nW cI cJ a me n f u) (fun i hi ihi => ?_) 0 (by omega)
  refine gj_iload_n (pc := 4) cx d_N_countTellers_4 rfl (x := nI i) rfl ?_
  refine gj_aload_n (pc := 5) cx d_N_countTellers_5 rfl (x := a 0) rfl ?_
  refine gj_get (pc := 6) (ci := 0) (C := R_N) (T := T_N) (N := 12) (v := .int (nI n)) cx hK gj_rP in_N d_N_countTellers_6 0 rfl rfl 1 (by decide) (in_WT wm_34) rfl ?_
  refine gj_icmp_geN (pc := 9) cx d_N_countTellers_9 (tgt := 39) rfl (by omega) (by omega) (fun hb1 => ?_) (fun hb1 => ?_)
  · refine gj_iload_n (pc := 39) cx d_N_countTellers_39 rfl (x := nI (cntB (fun y => decide (nTo u (t * 7 + y) ≠ -1)) i)) rfl ?_
    exact gj_iretR (pc := 40) cx hr hlk d_N_countTellers_40 (by rw [show i = n from (by omega)]; rfl)
  · refine gj_aload_n (pc := 12) cx d_N_countTellers_12 rfl (x := a 0) rfl ?_
    refine gj_get (pc := 13) (ci := 0) (C := R_N) (T := T_N) (N := 12) (v := .ref (a 5)) cx hK gj_rP in_N d_N_countTellers_13 0 rfl rfl 10 (by decide) (in_WT wm_43) rfl ?_
    refine gj_iload_n (pc := 16) cx d_N_countTellers_16 rfl (x := nI t) rfl ?_
    refine gj_bipush (pc := 17) cx d_N_countTellers_17 (v := nI 7) (by decide) ?_
    refine gj_imulN (pc := 19) cx d_N_countTellers_19 ?_
    refine gj_iload_n (pc := 20) cx d_N_countTellers_20 rfl (x := nI i) rfl ?_
    refine gj_iaddN (pc := 21) cx d_N_countTellers_21 ?_
    refine gj_lald (pc := 22) (i := (t * 7) + i) (f := nTo u) cx hK gj_rP d_N_countTellers_22 5 1 rfl rfl (by omega) (by decide) ?_
    refine gj_ldc2 (pc := 23) cx d_N_countTellers_23 (v := (-1)) (in_WT wm_29) ?_
    refine gj_lcmp_eq (pc := 26) cx d_N_countTellers_26 d_N_countTellers_27 (tgt := 33) rfl (fun hb2 => ?_) (fun hb2 => ?_)
    · refine gj_iincN (pc := 33) cx d_N_countTellers_33 (k := 3) (d := 1) (lo' := [(3, .int (nI (i + 1))), (0, .ref (a 0)), (1, .int (nI t)), (2, .int (nI (cntB (fun y => decide (nTo u (t * 7 + y) ≠ -1)) i)))]) rfl (by decide) (by decide) rfl ?_
      refine gj_goto (pc := 36) cx d_N_countTellers_36 (tgt := 4) rfl ?_
      refine gj_pick (lo' := [(0, .ref (a 0)), (1, .int (nI t)), (2, .int (nI (cntB (fun y => decide (nTo u (t * 7 + y) ≠ -1)) i))), (3, .int (nI (i + 1)))]) [1, 2, 3, 0] rfl ?_
      exact gj_eq rfl (by simp [cntB, hb1, hb2]) rfl (rfl) (ihi (by omega))
    · refine gj_iincN (pc := 30) cx d_N_countTellers_30 (k := 2) (d := 1) (lo' := [(2, .int (nI ((cntB (fun y => decide (nTo u (t * 7 + y) ≠ -1)) i) + 1))), (0, .ref (a 0)), (1, .int (nI t)), (3, .int (nI i))]) rfl (by decide) (by decide) rfl ?_
      refine gj_iincN (pc := 33) cx d_N_countTellers_33 (k := 3) (d := 1) (lo' := [(3, .int (nI (i + 1))), (2, .int (nI ((cntB (fun y => decide (nTo u (t * 7 + y) ≠ -1)) i) + 1))), (0, .ref (a 0)), (1, .int (nI t))]) rfl (by decide) (by decide) rfl ?_
      refine gj_goto (pc := 36) cx d_N_countTellers_36 (tgt := 4) rfl ?_
      refine gj_pick (lo' := [(0, .ref (a 0)), (1, .int (nI t)), (2, .int (nI ((cntB (fun y => decide (nTo u (t * 7 + y) ≠ -1)) i) + 1))), (3, .int (nI (i + 1)))]) [2, 3, 1, 0] rfl ?_
      exact gj_eq rfl (by simp [cntB, hb1, hb2]) rfl (rfl) (ihi (by omega))

set_option maxRecDepth 100000 in
set_option maxHeartbeats 4000000 in
theorem c_N_countTellersOf (l : Launch) (D : va_G) (cI cJ : ClassId) (a : Nat → Nat) (me n f : Nat) (u : NS) (t : Nat) (pp : Int64) (hn : n ≤ 7) (ht : t < 141) : MRi l y_N_countTellersOf (wsM y_N_countTellersOf b_N_countTellersOf 6 (some .int)) { frames := 0, cells := 0, slots := 0, locals := 0 } D vwK (tyl cI cJ) (nW cI cJ a me n f u) [.ref (a 0), .int (nI t), .long pp] (nI (nTellOf u t pp n)) := by
  refine gj_enterR (own := R_N) (by decide) rfl (Nat.le_of_ble_eq_true rfl) rfl rfl (fun p e s m below meth c cx hr hlk hK => ?_)
  refine gj_iconst (pc := 0) cx d_N_countTellersOf_0 (v := nI 0) (by decide) ?_
  refine gj_istore (pc := 1) cx d_N_countTellersOf_1 (lo' := [(4, .int (nI 0)), (0, .ref (a 0)), (1, .int (nI t)), (2, .long pp)]) (by decide) rfl ?_
  refine gj_iconst (pc := 3) cx d_N_countTellersOf_3 (v := nI 0) (by decide) ?_
  refine gj_istore (pc := 4) cx d_N_countTellersOf_4 (lo' := [(5, .int (nI 0)), (4, .int (nI 0)), (0, .ref (a 0)), (1, .int (nI t)), (2, .long pp)]) (by decide) rfl ?_
  refine gj_pick (lo' := [(0, .ref (a 0)), (1, .int (nI t)), (2, .long pp), (4, .int (nI 0)), (5, .int (nI 0))]) [2, 3, 4, 1, 0] rfl ?_
  refine gj_forG (G := Gj p l e _ s m _ below meth c _ _ _ _ _) n 6 (fun i => [(0, .ref (a 0)), (1, .int (nI t)), (2, .long pp), (4, .int (nI (cntB (fun y => decide (nTo u (t * 7 + y) = pp)) i))), (5, .int (nI i))]) (fun i => nW cI cJ a me n f u) (fun i hi ihi => ?_) 0 (by omega)
  refine gj_iload (pc := 6) cx d_N_countTellersOf_6 (x := nI i) rfl ?_
  refine gj_aload_n (pc := 8) cx d_N_countTellersOf_8 rfl (x := a 0) rfl ?_
  refine gj_get (pc := 9) (ci := 0) (C := R_N) (T := T_N) (N := 12) (v := .int (nI n)) cx hK gj_rP in_N d_N_countTellersOf_9 0 rfl rfl 1 (by decide) (in_WT wm_34) rfl ?_
  refine gj_icmp_geN (pc := 12) cx d_N_countTellersOf_12 (tgt := 41) rfl (by omega) (by omega) (fun hb1 => ?_) (fun hb1 => ?_)
  · refine gj_iload (pc := 41) cx d_N_countTellersOf_41 (x := nI (cntB (fun y => decide (nTo u (t * 7 + y) = pp)) i)) rfl ?_
    exact gj_iretR (pc := 43) cx hr hlk d_N_countTellersOf_43 (by rw [show i = n from (by omega)]; rfl)
  · refine gj_aload_n (pc := 15) cx d_N_countTellersOf_15 rfl (x := a 0) rfl ?_
    refine gj_get (pc := 16) (ci := 0) (C := R_N) (T := T_N) (N := 12) (v := .ref (a 5)) cx hK gj_rP in_N d_N_countTellersOf_16 0 rfl rfl 10 (by decide) (in_WT wm_43) rfl ?_
    refine gj_iload_n (pc := 19) cx d_N_countTellersOf_19 rfl (x := nI t) rfl ?_
    refine gj_bipush (pc := 20) cx d_N_countTellersOf_20 (v := nI 7) (by decide) ?_
    refine gj_imulN (pc := 22) cx d_N_countTellersOf_22 ?_
    refine gj_iload (pc := 23) cx d_N_countTellersOf_23 (x := nI i) rfl ?_
    refine gj_iaddN (pc := 25) cx d_N_countTellersOf_25 ?_
    refine gj_lald (pc := 26) (i := (t * 7) + i) (f := nTo u) cx hK gj_rP d_N_countTellersOf_26 5 1 rfl rfl (by omega) (by decide) ?_
    refine gj_lload_n (pc := 27) cx d_N_countTellersOf_27 rfl (x := pp) rfl ?_
    refine gj_lcmp_ne (pc := 28) cx d_N_countTellersOf_28 d_N_countTellersOf_29 (tgt := 35) rfl (fun hb2 => ?_) (fun hb2 => ?_)
    · refine gj_iincN (pc := 35) cx d_N_countTellersOf_35 (k := 4) (d := 1) (lo' := [(5, .int (nI (i + 1))), (0, .ref (a 0)), (1, .int (nI t)), (2, .long pp), (4, .int (nI (cntB (fun y => decide (nTo u (t * 7 + y) = pp)) i)))]) rfl (by decide) (by decide) rfl ?_
      refine gj_goto (pc := 38) cx d_N_countTellersOf_38 (tgt := 6) rfl ?_
      refine gj_pick (lo' := [(0, .ref (a 0)), (1, .int (nI t)), (2, .long pp), (4, .int (nI (cntB (fun y => decide (nTo u (t * 7 + y) = pp)) i))), (5, .int (nI (i + 1)))]) [1, 2, 3, 4, 0] rfl ?_
      exact gj_eq rfl (by simp [cntB, hb1, hb2]) rfl (rfl) (ihi (by omega))
    · refine gj_iincN (pc := 32) cx d_N_countTellersOf_32 (k := 3) (d := 1) (lo' := [(4, .int (nI ((cntB (fun y => decide (nTo u (t * 7 + y) = pp)) i) + 1))), (0, .ref (a 0)), (1, .int (nI t)), (2, .long pp), (5, .int (nI i))]) rfl (by decide) (by decide) rfl ?_
      refine gj_iincN (pc := 35) cx d_N_countTellersOf_35 (k := 4) (d := 1) (lo' := [(5, .int (nI (i + 1))), (4, .int (nI ((cntB (fun y => decide (nTo u (t * 7 + y) = pp)) i) + 1))), (0, .ref (a 0)), (1, .int (nI t)), (2, .long pp)]) rfl (by decide) (by decide) rfl ?_
      refine gj_goto (pc := 38) cx d_N_countTellersOf_38 (tgt := 6) rfl ?_
      refine gj_pick (lo' := [(0, .ref (a 0)), (1, .int (nI t)), (2, .long pp), (4, .int (nI ((cntB (fun y => decide (nTo u (t * 7 + y) = pp)) i) + 1))), (5, .int (nI (i + 1)))]) [2, 3, 4, 1, 0] rfl ?_
      exact gj_eq rfl (by simp [cntB, hb1, hb2]) rfl (rfl) (ihi (by omega))

set_option maxRecDepth 100000 in
set_option maxHeartbeats 4000000 in
theorem c_N_keeps (l : Launch) (D : va_G) (cI cJ : ClassId) (a : Nat → Nat) (me n f : Nat) (u : NS) (i : Nat) (hn : n ≤ 7) (hi : i < 35) : MRi l y_N_keeps (wsM y_N_keeps b_N_keeps 2 (some .boolean)) { frames := 1, cells := 0, slots := 0, locals := 23 } D vwK (tyl cI cJ) (nW cI cJ a me n f u) [.ref (a 0), .int (nI i)] (bI (nKeep u n i)) := by
  refine gj_enterR (own := R_N) (by decide) rfl (Nat.le_of_ble_eq_true rfl) rfl rfl (fun p e s m below meth c cx hr hlk hK => ?_)
  refine gj_aload_n (pc := 0) cx d_N_keeps_0 rfl (x := a 0) rfl ?_
  refine gj_get (pc := 1) (ci := 0) (C := R_N) (T := T_N) (N := 12) (v := .ref (a 1)) cx hK gj_rP in_N d_N_keeps_1 0 rfl rfl 6 (by decide) (in_WT wm_39) rfl ?_
  refine gj_iconst (pc := 4) cx d_N_keeps_4 (v := nI 1) (by decide) ?_
  refine gj_iload_n (pc := 5) cx d_N_keeps_5 rfl (x := nI i) rfl ?_
  refine gj_callSRi (pc := 6) (As := [.int (nI 1), .int (nI i)]) (rest := [.ref (a 1)]) (v := nI (35 + i)) cx hK (c_T_at l D (tyl cI cJ) 1 i ) (va_cwS 2 cx.2.2.2.2 (good_S wm_178 wm_176 wm_177 wm_6) rfl rfl rfl (by decide +kernel) ⟨Nat.le_of_ble_eq_true rfl, Nat.le_of_ble_eq_true rfl⟩) (fun _ _ _ => gj_P0) rfl rfl (Nat.le_of_ble_eq_true rfl) d_N_keeps_6 ⟨Nat.zero_le _, Nat.zero_le _⟩ ?_
  refine gj_lald (pc := 9) (i := 35 + i) (f := nSa u) cx hK gj_rP d_N_keeps_9 1 1 rfl rfl (by omega) (by decide) ?_
  refine gj_ldc2 (pc := 10) cx d_N_keeps_10 (v := (-1)) (in_WT wm_29) ?_
  refine gj_lcmp_ne (pc := 13) cx d_N_keeps_13 d_N_keeps_14 (tgt := 34) rfl (fun hb1 => ?_) (fun hb1 => ?_)
  · refine gj_iconst (pc := 34) cx d_N_keeps_34 (v := nI 1) (by decide) ?_
    exact gj_zretR (pc := 35) cx hr hlk d_N_keeps_35 rfl (by simp [nKeep, bI, nI, hb1])
  · refine gj_aload_n (pc := 17) cx d_N_keeps_17 rfl (x := a 0) rfl ?_
    refine gj_get (pc := 18) (ci := 0) (C := R_N) (T := T_N) (N := 12) (v := .ref (a 1)) cx hK gj_rP in_N d_N_keeps_18 0 rfl rfl 6 (by decide) (in_WT wm_39) rfl ?_
    refine gj_iconst (pc := 21) cx d_N_keeps_21 (v := nI 2) (by decide) ?_
    refine gj_iload_n (pc := 22) cx d_N_keeps_22 rfl (x := nI i) rfl ?_
    refine gj_callSRi (pc := 23) (As := [.int (nI 2), .int (nI i)]) (rest := [.ref (a 1)]) (v := nI (70 + i)) cx hK (c_T_at l D (tyl cI cJ) 2 i ) (va_cwS 2 cx.2.2.2.2 (good_S wm_178 wm_176 wm_177 wm_6) rfl rfl rfl (by decide +kernel) ⟨Nat.le_of_ble_eq_true rfl, Nat.le_of_ble_eq_true rfl⟩) (fun _ _ _ => gj_P0) rfl rfl (Nat.le_of_ble_eq_true rfl) d_N_keeps_23 ⟨Nat.zero_le _, Nat.zero_le _⟩ ?_
    refine gj_lald (pc := 26) (i := 70 + i) (f := nSa u) cx hK gj_rP d_N_keeps_26 1 1 rfl rfl (by omega) (by decide) ?_
    refine gj_ldc2 (pc := 27) cx d_N_keeps_27 (v := (-1)) (in_WT wm_29) ?_
    refine gj_lcmp_eq (pc := 30) cx d_N_keeps_30 d_N_keeps_31 (tgt := 36) rfl (fun hb2 => ?_) (fun hb2 => ?_)
    · refine gj_aload_n (pc := 36) cx d_N_keeps_36 rfl (x := a 0) rfl ?_
      refine gj_iconst (pc := 37) cx d_N_keeps_37 (v := nI 1) (by decide) ?_
      refine gj_iload_n (pc := 38) cx d_N_keeps_38 rfl (x := nI i) rfl ?_
      refine gj_callSRi (pc := 39) (As := [.int (nI 1), .int (nI i)]) (rest := [.ref (a 0)]) (v := nI (35 + i)) cx hK (c_T_at l D (tyl cI cJ) 1 i ) (va_cwS 2 cx.2.2.2.2 (good_S wm_178 wm_176 wm_177 wm_6) rfl rfl rfl (by decide +kernel) ⟨Nat.le_of_ble_eq_true rfl, Nat.le_of_ble_eq_true rfl⟩) (fun _ _ _ => gj_P0) rfl rfl (Nat.le_of_ble_eq_true rfl) d_N_keeps_39 ⟨Nat.zero_le _, Nat.zero_le _⟩ ?_
      refine gj_callVRi (pc := 42) (As := [.int (nI (35 + i))]) (rest := []) (v := nI (nTell u (35 + i) n)) cx hK (c_N_countTellers l D cI cJ a me n f u (35 + i) (by omega) (by omega)) (cwV 1 cx.2.2.2.2 (good_V wm_284 wm_329 wm_282 wm_283 wm_3) rfl rfl rfl (by decide +kernel) ⟨Nat.le_of_ble_eq_true rfl, Nat.le_of_ble_eq_true rfl⟩) gj_rP 0 0 rfl rfl rfl rfl rfl (Nat.le_of_ble_eq_true rfl) d_N_keeps_42 ⟨Nat.zero_le _, Nat.zero_le _⟩ ?_
      have hv3 := nTell_lt u (35 + i) n
      refine gj_if_gtN (pc := 45) cx d_N_keeps_45 (tgt := 72) rfl (by omega) (fun hb4 => ?_) (fun hb4 => ?_)
      · refine gj_iconst (pc := 72) cx d_N_keeps_72 (v := nI 1) (by decide) ?_
        refine gj_goto (pc := 73) cx d_N_keeps_73 (tgt := 77) rfl ?_
        exact gj_zretR (pc := 77) cx hr hlk d_N_keeps_77 rfl (by simp [nKeep, bI, nI, hb1, hb2, hb4])
      · refine gj_aload_n (pc := 48) cx d_N_keeps_48 rfl (x := a 0) rfl ?_
        refine gj_iconst (pc := 49) cx d_N_keeps_49 (v := nI 2) (by decide) ?_
        refine gj_iload_n (pc := 50) cx d_N_keeps_50 rfl (x := nI i) rfl ?_
        refine gj_callSRi (pc := 51) (As := [.int (nI 2), .int (nI i)]) (rest := [.ref (a 0)]) (v := nI (70 + i)) cx hK (c_T_at l D (tyl cI cJ) 2 i ) (va_cwS 2 cx.2.2.2.2 (good_S wm_178 wm_176 wm_177 wm_6) rfl rfl rfl (by decide +kernel) ⟨Nat.le_of_ble_eq_true rfl, Nat.le_of_ble_eq_true rfl⟩) (fun _ _ _ => gj_P0) rfl rfl (Nat.le_of_ble_eq_true rfl) d_N_keeps_51 ⟨Nat.zero_le _, Nat.zero_le _⟩ ?_
        refine gj_callVRi (pc := 54) (As := [.int (nI (70 + i))]) (rest := []) (v := nI (nTell u (70 + i) n)) cx hK (c_N_countTellers l D cI cJ a me n f u (70 + i) (by omega) (by omega)) (cwV 1 cx.2.2.2.2 (good_V wm_284 wm_329 wm_282 wm_283 wm_3) rfl rfl rfl (by decide +kernel) ⟨Nat.le_of_ble_eq_true rfl, Nat.le_of_ble_eq_true rfl⟩) gj_rP 0 0 rfl rfl rfl rfl rfl (Nat.le_of_ble_eq_true rfl) d_N_keeps_54 ⟨Nat.zero_le _, Nat.zero_le _⟩ ?_
        have hv5 := nTell_lt u (70 + i) n
        refine gj_if_gtN (pc := 57) cx d_N_keeps_57 (tgt := 72) rfl (by omega) (fun hb6 => ?_) (fun hb6 => ?_)
        · refine gj_iconst (pc := 72) cx d_N_keeps_72 (v := nI 1) (by decide) ?_
          refine gj_goto (pc := 73) cx d_N_keeps_73 (tgt := 77) rfl ?_
          exact gj_zretR (pc := 77) cx hr hlk d_N_keeps_77 rfl (by simp [nKeep, bI, nI, hb1, hb2, hb4, hb6])
        · refine gj_aload_n (pc := 60) cx d_N_keeps_60 rfl (x := a 0) rfl ?_
          refine gj_iconst (pc := 61) cx d_N_keeps_61 (v := nI 3) (by decide) ?_
          refine gj_iload_n (pc := 62) cx d_N_keeps_62 rfl (x := nI i) rfl ?_
          refine gj_callSRi (pc := 63) (As := [.int (nI 3), .int (nI i)]) (rest := [.ref (a 0)]) (v := nI (105 + i)) cx hK (c_T_at l D (tyl cI cJ) 3 i ) (va_cwS 2 cx.2.2.2.2 (good_S wm_178 wm_176 wm_177 wm_6) rfl rfl rfl (by decide +kernel) ⟨Nat.le_of_ble_eq_true rfl, Nat.le_of_ble_eq_true rfl⟩) (fun _ _ _ => gj_P0) rfl rfl (Nat.le_of_ble_eq_true rfl) d_N_keeps_63 ⟨Nat.zero_le _, Nat.zero_le _⟩ ?_
          refine gj_callVRi (pc := 66) (As := [.int (nI (105 + i))]) (rest := []) (v := nI (nTell u (105 + i) n)) cx hK (c_N_countTellers l D cI cJ a me n f u (105 + i) (by omega) (by omega)) (cwV 1 cx.2.2.2.2 (good_V wm_284 wm_329 wm_282 wm_283 wm_3) rfl rfl rfl (by decide +kernel) ⟨Nat.le_of_ble_eq_true rfl, Nat.le_of_ble_eq_true rfl⟩) gj_rP 0 0 rfl rfl rfl rfl rfl (Nat.le_of_ble_eq_true rfl) d_N_keeps_66 ⟨Nat.zero_le _, Nat.zero_le _⟩ ?_
          have hv7 := nTell_lt u (105 + i) n
          refine gj_if_leN (pc := 69) cx d_N_keeps_69 (tgt := 76) rfl (by omega) (fun hb8 => ?_) (fun hb8 => ?_)
          · refine gj_iconst (pc := 76) cx d_N_keeps_76 (v := nI 0) (by decide) ?_
            exact gj_zretR (pc := 77) cx hr hlk d_N_keeps_77 rfl (by simp [nKeep, bI, nI, hb1, hb2, hb4, hb6, hb8])
          · refine gj_iconst (pc := 72) cx d_N_keeps_72 (v := nI 1) (by decide) ?_
            refine gj_goto (pc := 73) cx d_N_keeps_73 (tgt := 77) rfl ?_
            exact gj_zretR (pc := 77) cx hr hlk d_N_keeps_77 rfl (by simp [nKeep, bI, nI, hb1, hb2, hb4, hb6, hb8])
    · refine gj_iconst (pc := 34) cx d_N_keeps_34 (v := nI 1) (by decide) ?_
      exact gj_zretR (pc := 35) cx hr hlk d_N_keeps_35 rfl (by simp [nKeep, bI, nI, hb1, hb2])

set_option maxRecDepth 100000 in
set_option maxHeartbeats 4000000 in
theorem c_N_countKept (l : Launch) (D : va_G) (cI cJ : ClassId) (a : Nat → Nat) (me n f : Nat) (u : NS)  (hn : n ≤ 7) : MRi l y_N_countKept (wsM y_N_countKept b_N_countKept 3 (some .int)) { frames := 2, cells := 0, slots := 0, locals := 44 } D vwK (tyl cI cJ) (nW cI cJ a me n f u) [.ref (a 0)] (nI (nKept u n)) := by
  refine gj_enterR (own := R_N) (by decide) rfl (Nat.le_of_ble_eq_true rfl) rfl rfl (fun p e s m below meth c cx hr hlk hK => ?_)
  refine gj_iconst (pc := 0) cx d_N_countKept_0 (v := nI 0) (by decide) ?_
  refine gj_istore_n (pc := 1) cx d_N_countKept_1 rfl (lo' := [(1, .int (nI 0)), (0, .ref (a 0))]) (by decide) rfl ?_
  refine gj_iconst (pc := 2) cx d_N_countKept_2 (v := nI 0) (by decide) ?_
  refine gj_istore_n (pc := 3) cx d_N_countKept_3 rfl (lo' := [(2, .int (nI 0)), (1, .int (nI 0)), (0, .ref (a 0))]) (by decide) rfl ?_
  refine gj_pick (lo' := [(0, .ref (a 0)), (1, .int (nI 0)), (2, .int (nI 0))]) [2, 1, 0] rfl ?_
  refine gj_forG (G := Gj p l e _ s m _ below meth c _ _ _ _ _) 35 4 (fun i => [(0, .ref (a 0)), (1, .int (nI (cntB (nKeep u n) i))), (2, .int (nI i))]) (fun i => nW cI cJ a me n f u) (fun i hi ihi => ?_) 0 (by omega)
  refine gj_iload_n (pc := 4) cx d_N_countKept_4 rfl (x := nI i) rfl ?_
  refine gj_bipush (pc := 5) cx d_N_countKept_5 (v := nI 35) (by decide) ?_
  refine gj_icmp_geN (pc := 7) cx d_N_countKept_7 (tgt := 27) rfl (by omega) (by omega) (fun hb1 => ?_) (fun hb1 => ?_)
  · refine gj_iload_n (pc := 27) cx d_N_countKept_27 rfl (x := nI (cntB (nKeep u n) i)) rfl ?_
    exact gj_iretR (pc := 28) cx hr hlk d_N_countKept_28 (by rw [show i = 35 from (by omega)]; rfl)
  · refine gj_aload_n (pc := 10) cx d_N_countKept_10 rfl (x := a 0) rfl ?_
    refine gj_iload_n (pc := 11) cx d_N_countKept_11 rfl (x := nI i) rfl ?_
    refine gj_callVRi (pc := 12) (As := [.int (nI i)]) (rest := []) (v := bI (nKeep u n i)) cx hK (c_N_keeps l D cI cJ a me n f u i (by omega) (by omega)) (cwV 1 cx.2.2.2.2 (good_V wm_328 wm_326 wm_327 wm_554 wm_3) rfl rfl rfl (by decide +kernel) ⟨Nat.le_of_ble_eq_true rfl, Nat.le_of_ble_eq_true rfl⟩) gj_rP 0 0 rfl rfl rfl rfl rfl (Nat.le_of_ble_eq_true rfl) d_N_countKept_12 ⟨Nat.zero_le _, Nat.zero_le _⟩ ?_
    refine gj_if_eqB (pc := 15) cx d_N_countKept_15 (tgt := 21) rfl (fun hb2 => ?_) (fun hb2 => ?_)
    · refine gj_iincN (pc := 21) cx d_N_countKept_21 (k := 2) (d := 1) (lo' := [(2, .int (nI (i + 1))), (0, .ref (a 0)), (1, .int (nI (cntB (nKeep u n) i)))]) rfl (by decide) (by decide) rfl ?_
      refine gj_goto (pc := 24) cx d_N_countKept_24 (tgt := 4) rfl ?_
      refine gj_pick (lo' := [(0, .ref (a 0)), (1, .int (nI (cntB (nKeep u n) i))), (2, .int (nI (i + 1)))]) [1, 2, 0] rfl ?_
      exact gj_eq rfl (by simp [cntB, hb1, hb2]) rfl (rfl) (ihi (by omega))
    · refine gj_iincN (pc := 18) cx d_N_countKept_18 (k := 1) (d := 1) (lo' := [(1, .int (nI ((cntB (nKeep u n) i) + 1))), (0, .ref (a 0)), (2, .int (nI i))]) rfl (by decide) (by decide) rfl ?_
      refine gj_iincN (pc := 21) cx d_N_countKept_21 (k := 2) (d := 1) (lo' := [(2, .int (nI (i + 1))), (1, .int (nI ((cntB (nKeep u n) i) + 1))), (0, .ref (a 0))]) rfl (by decide) (by decide) rfl ?_
      refine gj_goto (pc := 24) cx d_N_countKept_24 (tgt := 4) rfl ?_
      refine gj_pick (lo' := [(0, .ref (a 0)), (1, .int (nI ((cntB (nKeep u n) i) + 1))), (2, .int (nI (i + 1)))]) [2, 1, 0] rfl ?_
      exact gj_eq rfl (by simp [cntB, hb1, hb2]) rfl (rfl) (ihi (by omega))

set_option maxRecDepth 100000 in
set_option maxHeartbeats 4000000 in
theorem c_N_isWellFormed (l : Launch) (D : va_G) (cI cJ : ClassId) (a : Nat → Nat) (me n f : Nat) (u : NS) (t : Nat) (pp : Int64) (hn : n ≤ 7) (ht : t < 141) : MRi l y_N_isWellFormed (wsM y_N_isWellFormed b_N_isWellFormed 4 (some .boolean)) { frames := 3, cells := 0, slots := 0, locals := 68 } D vwK (tyl cI cJ) (nW cI cJ a me n f u) [.ref (a 0), .int (nI t), .long pp] (bI (nWf t pp n)) := by
  refine gj_enterR (own := R_N) (by decide) rfl (Nat.le_of_ble_eq_true rfl) rfl rfl (fun p e s m below meth c cx hr hlk hK => ?_)
  refine gj_iload_n (pc := 0) cx d_N_isWellFormed_0 rfl (x := nI t) rfl ?_
  refine gj_sipush (pc := 1) cx d_N_isWellFormed_1 (v := nI 140) (by decide) ?_
  refine gj_icmp_neN (pc := 4) cx d_N_isWellFormed_4 (tgt := 16) rfl (by omega) (by omega) (fun hb1 => ?_) (fun hb1 => ?_)
  · refine gj_lload_n (pc := 16) cx d_N_isWellFormed_16 rfl (x := pp) rfl ?_
    refine gj_iload_n (pc := 17) cx d_N_isWellFormed_17 rfl (x := nI t) rfl ?_
    refine gj_callSRi (pc := 18) (As := [.int (nI t)]) (rest := [.long pp]) (v := nI (t % 35 / 5)) cx hK (c_T_account l D (tyl cI cJ) t (by omega)) (va_cwS 1 cx.2.2.2.2 (good_S wm_154 wm_152 wm_153 wm_6) rfl rfl rfl (by decide +kernel) ⟨Nat.le_of_ble_eq_true rfl, Nat.le_of_ble_eq_true rfl⟩) (fun _ _ _ => gj_P0) rfl rfl (Nat.le_of_ble_eq_true rfl) d_N_isWellFormed_18 ⟨Nat.zero_le _, Nat.zero_le _⟩ ?_
    refine gj_aload_n (pc := 21) cx d_N_isWellFormed_21 rfl (x := a 0) rfl ?_
    refine gj_get (pc := 22) (ci := 0) (C := R_N) (T := T_N) (N := 12) (v := .int (nI n)) cx hK gj_rP in_N d_N_isWellFormed_22 0 rfl rfl 1 (by decide) (in_WT wm_34) rfl ?_
    refine gj_callSRi (pc := 25) (As := [.long pp, .int (nI (t % 35 / 5)), .int (nI n)]) (rest := []) (v := bI (wfP pp (t % 35 / 5) n)) cx hK (c_P_isWellFormed l D (tyl cI cJ) pp (t % 35 / 5) n (by omega) (by omega)) (va_cwS 3 cx.2.2.2.2 (good_S wm_157 wm_155 wm_156 wm_7) rfl rfl rfl (by decide +kernel) ⟨Nat.le_of_ble_eq_true rfl, Nat.le_of_ble_eq_true rfl⟩) (fun _ _ _ => gj_P0) rfl rfl (Nat.le_of_ble_eq_true rfl) d_N_isWellFormed_25 ⟨Nat.zero_le _, Nat.zero_le _⟩ ?_
    exact gj_zretR (pc := 28) cx hr hlk d_N_isWellFormed_28 (bI_n _) (by simp [nWf, hb1])
  · refine gj_lload_n (pc := 7) cx d_N_isWellFormed_7 rfl (x := pp) rfl ?_
    refine gj_aload_n (pc := 8) cx d_N_isWellFormed_8 rfl (x := a 0) rfl ?_
    refine gj_get (pc := 9) (ci := 0) (C := R_N) (T := T_N) (N := 12) (v := .int (nI n)) cx hK gj_rP in_N d_N_isWellFormed_9 0 rfl rfl 1 (by decide) (in_WT wm_34) rfl ?_
    refine gj_callSRi (pc := 12) (As := [.long pp, .int (nI n)]) (rest := []) (v := bI (isMk pp n)) cx hK (c_P_isMark l D (tyl cI cJ) pp n (by omega)) (va_cwS 2 cx.2.2.2.2 (good_S wm_148 wm_146 wm_147 wm_7) rfl rfl rfl (by decide +kernel) ⟨Nat.le_of_ble_eq_true rfl, Nat.le_of_ble_eq_true rfl⟩) (fun _ _ _ => gj_P0) rfl rfl (Nat.le_of_ble_eq_true rfl) d_N_isWellFormed_12 ⟨Nat.zero_le _, Nat.zero_le _⟩ ?_
    exact gj_zretR (pc := 15) cx hr hlk d_N_isWellFormed_15 (bI_n _) (by simp [nWf, hb1])

set_option maxRecDepth 100000 in
set_option maxHeartbeats 4000000 in
theorem c_N_objection (l : Launch) (D : va_G) (cI cJ : ClassId) (a : Nat → Nat) (me n f : Nat) (u : NS) (t : Nat) (y : Nat) (pp : Int64) (hok : nOk u) (ht : t < 141) (hy : y < 7) : MRi l y_N_objection (wsM y_N_objection b_N_objection 9 (some .int)) { frames := 1, cells := 0, slots := 0, locals := 21 } D vwK (tyl cI cJ) (nW cI cJ a me n f u) [.ref (a 0), .int (nI t), .int (nI y), .long pp] (nObj u t y pp) := by
  obtain ⟨hco, hfu, hsu, hcn, hfr⟩ := id hok
  refine gj_enterR (own := R_N) (by decide) rfl (Nat.le_of_ble_eq_true rfl) rfl rfl (fun p e s m below meth c cx hr hlk hK => ?_)
  refine gj_iload_n (pc := 0) cx d_N_objection_0 rfl (x := nI t) rfl ?_
  refine gj_callSRi (pc := 1) (As := [.int (nI t)]) (rest := []) (v := nI (t / 35)) cx hK (c_T_kind l D (tyl cI cJ) t (by omega)) (va_cwS 1 cx.2.2.2.2 (good_S wm_169 wm_167 wm_168 wm_6) rfl rfl rfl (by decide +kernel) ⟨Nat.le_of_ble_eq_true rfl, Nat.le_of_ble_eq_true rfl⟩) (fun _ _ _ => gj_P0) rfl rfl (Nat.le_of_ble_eq_true rfl) d_N_objection_1 ⟨Nat.zero_le _, Nat.zero_le _⟩ ?_
  refine gj_istore (pc := 4) cx d_N_objection_4 (lo' := [(5, .int (nI (t / 35))), (0, .ref (a 0)), (1, .int (nI t)), (2, .int (nI y)), (3, .long pp)]) (by decide) rfl ?_
  refine gj_aload_n (pc := 6) cx d_N_objection_6 rfl (x := a 0) rfl ?_
  refine gj_get (pc := 7) (ci := 0) (C := R_N) (T := T_N) (N := 12) (v := .ref (a 5)) cx hK gj_rP in_N d_N_objection_7 0 rfl rfl 10 (by decide) (in_WT wm_43) rfl ?_
  refine gj_iload_n (pc := 10) cx d_N_objection_10 rfl (x := nI t) rfl ?_
  refine gj_bipush (pc := 11) cx d_N_objection_11 (v := nI 7) (by decide) ?_
  refine gj_imulN (pc := 13) cx d_N_objection_13 ?_
  refine gj_iload_n (pc := 14) cx d_N_objection_14 rfl (x := nI y) rfl ?_
  refine gj_iaddN (pc := 15) cx d_N_objection_15 ?_
  refine gj_lald (pc := 16) (i := (t * 7) + y) (f := nTo u) cx hK gj_rP d_N_objection_16 5 1 rfl rfl (by omega) (by decide) ?_
  refine gj_lstore (pc := 17) cx d_N_objection_17 (lo' := [(6, .long (nTo u ((t * 7) + y))), (5, .int (nI (t / 35))), (0, .ref (a 0)), (1, .int (nI t)), (2, .int (nI y)), (3, .long pp)]) (by decide) rfl ?_
  refine gj_iload (pc := 19) cx d_N_objection_19 (x := nI (t / 35)) rfl ?_
  refine gj_iconst (pc := 21) cx d_N_objection_21 (v := nI 4) (by decide) ?_
  refine gj_icmp_neN (pc := 22) cx d_N_objection_22 (tgt := 39) rfl (by omega) (by omega) (fun hb1 => ?_) (fun hb1 => ?_)
  · refine gj_iload_n (pc := 39) cx d_N_objection_39 rfl (x := nI t) rfl ?_
    refine gj_callSRi (pc := 40) (As := [.int (nI t)]) (rest := []) (v := nI (t % 35 / 5)) cx hK (c_T_account l D (tyl cI cJ) t (by omega)) (va_cwS 1 cx.2.2.2.2 (good_S wm_154 wm_152 wm_153 wm_6) rfl rfl rfl (by decide +kernel) ⟨Nat.le_of_ble_eq_true rfl, Nat.le_of_ble_eq_true rfl⟩) (fun _ _ _ => gj_P0) rfl rfl (Nat.le_of_ble_eq_true rfl) d_N_objection_40 ⟨Nat.zero_le _, Nat.zero_le _⟩ ?_
    refine gj_istore (pc := 43) cx d_N_objection_43 (lo' := [(8, .int (nI (t % 35 / 5))), (6, .long (nTo u ((t * 7) + y))), (5, .int (nI (t / 35))), (0, .ref (a 0)), (1, .int (nI t)), (2, .int (nI y)), (3, .long pp)]) (by decide) rfl ?_
    refine gj_iload (pc := 45) cx d_N_objection_45 (x := nI (t / 35)) rfl ?_
    refine gj_if_neN (pc := 47) cx d_N_objection_47 (tgt := 59) rfl (by omega) (fun hb2 => ?_) (fun hb2 => ?_)
    · refine gj_iload_n (pc := 59) cx d_N_objection_59 rfl (x := nI t) rfl ?_
      refine gj_callSRi (pc := 60) (As := [.int (nI t)]) (rest := []) (v := nI (t % 5 + 1)) cx hK (c_T_seq l D (tyl cI cJ) t (by omega)) (va_cwS 1 cx.2.2.2.2 (good_S wm_172 wm_170 wm_171 wm_6) rfl rfl rfl (by decide +kernel) ⟨Nat.le_of_ble_eq_true rfl, Nat.le_of_ble_eq_true rfl⟩) (fun _ _ _ => gj_P0) rfl rfl (Nat.le_of_ble_eq_true rfl) d_N_objection_60 ⟨Nat.zero_le _, Nat.zero_le _⟩ ?_
      refine gj_aload_n (pc := 63) cx d_N_objection_63 rfl (x := a 0) rfl ?_
      refine gj_get (pc := 64) (ci := 0) (C := R_N) (T := T_N) (N := 12) (v := .ref (a 3)) cx hK gj_rP in_N d_N_objection_64 0 rfl rfl 8 (by decide) (in_WT wm_41) rfl ?_
      refine gj_iload (pc := 67) cx d_N_objection_67 (x := nI (t % 35 / 5)) rfl ?_
      refine gj_ialdN (pc := 69) (i := t % 35 / 5) (f := nFr u) cx hK gj_rP d_N_objection_69 3 0 rfl rfl (by omega) (by decide) ?_
      have hv3 := hfr (t % 35 / 5)
      refine gj_icmp_gtN (pc := 70) cx d_N_objection_70 (tgt := 76) rfl (by omega) (by omega) (fun hb4 => ?_) (fun hb4 => ?_)
      · refine gj_iload (pc := 76) cx d_N_objection_76 (x := nI (t / 35)) rfl ?_
        refine gj_if_neN (pc := 78) cx d_N_objection_78 (tgt := 96) rfl (by omega) (fun hb5 => ?_) (fun hb5 => ?_)
        · refine gj_lload (pc := 96) cx d_N_objection_96 (x := nTo u ((t * 7) + y)) rfl ?_
          refine gj_ldc2 (pc := 98) cx d_N_objection_98 (v := (-1)) (in_WT wm_29) ?_
          refine gj_lcmp_ne (pc := 101) cx d_N_objection_101 d_N_objection_102 (tgt := 109) rfl (fun hb6 => ?_) (fun hb6 => ?_)
          · refine gj_bipush (pc := 109) cx d_N_objection_109 (v := (-6)) (by decide) ?_
            exact gj_iretR (pc := 111) cx hr hlk d_N_objection_111 (by unfold nObj; rw [if_neg, if_neg, if_neg, if_neg] <;> first | rfl | omega | (rw [if_neg] <;> first | assumption | omega))
          · refine gj_iconst (pc := 105) cx d_N_objection_105 (v := nI 0) (by decide) ?_
            refine gj_goto (pc := 106) cx d_N_objection_106 (tgt := 111) rfl ?_
            exact gj_iretR (pc := 111) cx hr hlk d_N_objection_111 (by unfold nObj; rw [if_neg, if_neg, if_neg, if_pos] <;> first | rfl | omega | (rw [if_neg] <;> first | assumption | omega))
        · refine gj_aload_n (pc := 81) cx d_N_objection_81 rfl (x := a 0) rfl ?_
          refine gj_get (pc := 82) (ci := 0) (C := R_N) (T := T_N) (N := 12) (v := .ref (a 1)) cx hK gj_rP in_N d_N_objection_82 0 rfl rfl 6 (by decide) (in_WT wm_39) rfl ?_
          refine gj_iconst (pc := 85) cx d_N_objection_85 (v := nI 1) (by decide) ?_
          refine gj_iload_n (pc := 86) cx d_N_objection_86 rfl (x := nI t) rfl ?_
          refine gj_callSRi (pc := 87) (As := [.int (nI t)]) (rest := [.int (nI 1), .ref (a 1)]) (v := nI (t % 35)) cx hK (c_T_instance l D (tyl cI cJ) t (by omega)) (va_cwS 1 cx.2.2.2.2 (good_S wm_175 wm_173 wm_174 wm_6) rfl rfl rfl (by decide +kernel) ⟨Nat.le_of_ble_eq_true rfl, Nat.le_of_ble_eq_true rfl⟩) (fun _ _ _ => gj_P0) rfl rfl (Nat.le_of_ble_eq_true rfl) d_N_objection_87 ⟨Nat.zero_le _, Nat.zero_le _⟩ ?_
          refine gj_callSRi (pc := 90) (As := [.int (nI 1), .int (nI (t % 35))]) (rest := [.ref (a 1)]) (v := nI (35 + (t % 35))) cx hK (c_T_at l D (tyl cI cJ) 1 (t % 35) ) (va_cwS 2 cx.2.2.2.2 (good_S wm_178 wm_176 wm_177 wm_6) rfl rfl rfl (by decide +kernel) ⟨Nat.le_of_ble_eq_true rfl, Nat.le_of_ble_eq_true rfl⟩) (fun _ _ _ => gj_P0) rfl rfl (Nat.le_of_ble_eq_true rfl) d_N_objection_90 ⟨Nat.zero_le _, Nat.zero_le _⟩ ?_
          refine gj_lald (pc := 93) (i := 35 + (t % 35)) (f := nSa u) cx hK gj_rP d_N_objection_93 1 1 rfl rfl (by omega) (by decide) ?_
          refine gj_lstore (pc := 94) cx d_N_objection_94 (lo' := [(6, .long (nSa u (35 + (t % 35)))), (8, .int (nI (t % 35 / 5))), (5, .int (nI (t / 35))), (0, .ref (a 0)), (1, .int (nI t)), (2, .int (nI y)), (3, .long pp)]) (by decide) rfl ?_
          refine gj_lload (pc := 96) cx d_N_objection_96 (x := nSa u (35 + (t % 35))) rfl ?_
          refine gj_ldc2 (pc := 98) cx d_N_objection_98 (v := (-1)) (in_WT wm_29) ?_
          refine gj_lcmp_ne (pc := 101) cx d_N_objection_101 d_N_objection_102 (tgt := 109) rfl (fun hb7 => ?_) (fun hb7 => ?_)
          · refine gj_bipush (pc := 109) cx d_N_objection_109 (v := (-6)) (by decide) ?_
            exact gj_iretR (pc := 111) cx hr hlk d_N_objection_111 (by unfold nObj; rw [if_neg, if_neg, if_neg, if_neg] <;> first | rfl | omega | (rw [if_pos] <;> first | assumption | omega))
          · refine gj_iconst (pc := 105) cx d_N_objection_105 (v := nI 0) (by decide) ?_
            refine gj_goto (pc := 106) cx d_N_objection_106 (tgt := 111) rfl ?_
            exact gj_iretR (pc := 111) cx hr hlk d_N_objection_111 (by unfold nObj; rw [if_neg, if_neg, if_neg, if_pos] <;> first | rfl | omega | (rw [if_pos] <;> first | assumption | omega))
      · refine gj_bipush (pc := 73) cx d_N_objection_73 (v := (-5)) (by decide) ?_
        exact gj_iretR (pc := 75) cx hr hlk d_N_objection_75 (by unfold nObj; rw [if_neg, if_neg, if_pos] <;> first | rfl | assumption | omega | (simp_all; done))
    · refine gj_iload_n (pc := 50) cx d_N_objection_50 rfl (x := nI y) rfl ?_
      refine gj_iload (pc := 51) cx d_N_objection_51 (x := nI (t % 35 / 5)) rfl ?_
      refine gj_icmp_eqN (pc := 53) cx d_N_objection_53 (tgt := 59) rfl (by omega) (by omega) (fun hb8 => ?_) (fun hb8 => ?_)
      · refine gj_iload_n (pc := 59) cx d_N_objection_59 rfl (x := nI t) rfl ?_
        refine gj_callSRi (pc := 60) (As := [.int (nI t)]) (rest := []) (v := nI (t % 5 + 1)) cx hK (c_T_seq l D (tyl cI cJ) t (by omega)) (va_cwS 1 cx.2.2.2.2 (good_S wm_172 wm_170 wm_171 wm_6) rfl rfl rfl (by decide +kernel) ⟨Nat.le_of_ble_eq_true rfl, Nat.le_of_ble_eq_true rfl⟩) (fun _ _ _ => gj_P0) rfl rfl (Nat.le_of_ble_eq_true rfl) d_N_objection_60 ⟨Nat.zero_le _, Nat.zero_le _⟩ ?_
        refine gj_aload_n (pc := 63) cx d_N_objection_63 rfl (x := a 0) rfl ?_
        refine gj_get (pc := 64) (ci := 0) (C := R_N) (T := T_N) (N := 12) (v := .ref (a 3)) cx hK gj_rP in_N d_N_objection_64 0 rfl rfl 8 (by decide) (in_WT wm_41) rfl ?_
        refine gj_iload (pc := 67) cx d_N_objection_67 (x := nI (t % 35 / 5)) rfl ?_
        refine gj_ialdN (pc := 69) (i := t % 35 / 5) (f := nFr u) cx hK gj_rP d_N_objection_69 3 0 rfl rfl (by omega) (by decide) ?_
        have hv9 := hfr (t % 35 / 5)
        refine gj_icmp_gtN (pc := 70) cx d_N_objection_70 (tgt := 76) rfl (by omega) (by omega) (fun hb10 => ?_) (fun hb10 => ?_)
        · refine gj_iload (pc := 76) cx d_N_objection_76 (x := nI (t / 35)) rfl ?_
          refine gj_if_neN (pc := 78) cx d_N_objection_78 (tgt := 96) rfl (by omega) (fun hb11 => ?_) (fun hb11 => ?_)
          · refine gj_lload (pc := 96) cx d_N_objection_96 (x := nTo u ((t * 7) + y)) rfl ?_
            refine gj_ldc2 (pc := 98) cx d_N_objection_98 (v := (-1)) (in_WT wm_29) ?_
            refine gj_lcmp_ne (pc := 101) cx d_N_objection_101 d_N_objection_102 (tgt := 109) rfl (fun hb12 => ?_) (fun hb12 => ?_)
            · refine gj_bipush (pc := 109) cx d_N_objection_109 (v := (-6)) (by decide) ?_
              exact gj_iretR (pc := 111) cx hr hlk d_N_objection_111 (by unfold nObj; rw [if_neg, if_neg, if_neg, if_neg] <;> first | rfl | omega | (rw [if_pos] <;> first | assumption | omega))
            · refine gj_iconst (pc := 105) cx d_N_objection_105 (v := nI 0) (by decide) ?_
              refine gj_goto (pc := 106) cx d_N_objection_106 (tgt := 111) rfl ?_
              exact gj_iretR (pc := 111) cx hr hlk d_N_objection_111 (by unfold nObj; rw [if_neg, if_neg, if_neg, if_pos] <;> first | rfl | omega | (rw [if_pos] <;> first | assumption | omega))
          · refine gj_aload_n (pc := 81) cx d_N_objection_81 rfl (x := a 0) rfl ?_
            refine gj_get (pc := 82) (ci := 0) (C := R_N) (T := T_N) (N := 12) (v := .ref (a 1)) cx hK gj_rP in_N d_N_objection_82 0 rfl rfl 6 (by decide) (in_WT wm_39) rfl ?_
            refine gj_iconst (pc := 85) cx d_N_objection_85 (v := nI 1) (by decide) ?_
            refine gj_iload_n (pc := 86) cx d_N_objection_86 rfl (x := nI t) rfl ?_
            refine gj_callSRi (pc := 87) (As := [.int (nI t)]) (rest := [.int (nI 1), .ref (a 1)]) (v := nI (t % 35)) cx hK (c_T_instance l D (tyl cI cJ) t (by omega)) (va_cwS 1 cx.2.2.2.2 (good_S wm_175 wm_173 wm_174 wm_6) rfl rfl rfl (by decide +kernel) ⟨Nat.le_of_ble_eq_true rfl, Nat.le_of_ble_eq_true rfl⟩) (fun _ _ _ => gj_P0) rfl rfl (Nat.le_of_ble_eq_true rfl) d_N_objection_87 ⟨Nat.zero_le _, Nat.zero_le _⟩ ?_
            refine gj_callSRi (pc := 90) (As := [.int (nI 1), .int (nI (t % 35))]) (rest := [.ref (a 1)]) (v := nI (35 + (t % 35))) cx hK (c_T_at l D (tyl cI cJ) 1 (t % 35) ) (va_cwS 2 cx.2.2.2.2 (good_S wm_178 wm_176 wm_177 wm_6) rfl rfl rfl (by decide +kernel) ⟨Nat.le_of_ble_eq_true rfl, Nat.le_of_ble_eq_true rfl⟩) (fun _ _ _ => gj_P0) rfl rfl (Nat.le_of_ble_eq_true rfl) d_N_objection_90 ⟨Nat.zero_le _, Nat.zero_le _⟩ ?_
            refine gj_lald (pc := 93) (i := 35 + (t % 35)) (f := nSa u) cx hK gj_rP d_N_objection_93 1 1 rfl rfl (by omega) (by decide) ?_
            refine gj_lstore (pc := 94) cx d_N_objection_94 (lo' := [(6, .long (nSa u (35 + (t % 35)))), (8, .int (nI (t % 35 / 5))), (5, .int (nI (t / 35))), (0, .ref (a 0)), (1, .int (nI t)), (2, .int (nI y)), (3, .long pp)]) (by decide) rfl ?_
            refine gj_lload (pc := 96) cx d_N_objection_96 (x := nSa u (35 + (t % 35))) rfl ?_
            refine gj_ldc2 (pc := 98) cx d_N_objection_98 (v := (-1)) (in_WT wm_29) ?_
            refine gj_lcmp_ne (pc := 101) cx d_N_objection_101 d_N_objection_102 (tgt := 109) rfl (fun hb13 => ?_) (fun hb13 => ?_)
            · refine gj_bipush (pc := 109) cx d_N_objection_109 (v := (-6)) (by decide) ?_
              exact gj_iretR (pc := 111) cx hr hlk d_N_objection_111 (by unfold nObj; rw [if_neg, if_neg, if_neg, if_neg] <;> first | rfl | omega | (rw [if_pos] <;> first | assumption | omega))
            · refine gj_iconst (pc := 105) cx d_N_objection_105 (v := nI 0) (by decide) ?_
              refine gj_goto (pc := 106) cx d_N_objection_106 (tgt := 111) rfl ?_
              exact gj_iretR (pc := 111) cx hr hlk d_N_objection_111 (by unfold nObj; rw [if_neg, if_neg, if_neg, if_pos] <;> first | rfl | omega | (rw [if_pos] <;> first | assumption | omega))
        · refine gj_bipush (pc := 73) cx d_N_objection_73 (v := (-5)) (by decide) ?_
          exact gj_iretR (pc := 75) cx hr hlk d_N_objection_75 (by unfold nObj; rw [if_neg, if_neg, if_pos] <;> first | rfl | assumption | omega | (simp_all; done))
      · refine gj_bipush (pc := 56) cx d_N_objection_56 (v := (-4)) (by decide) ?_
        exact gj_iretR (pc := 58) cx hr hlk d_N_objection_58 (by unfold nObj; rw [if_neg, if_pos] <;> first | rfl | assumption | omega | (simp_all; done))
  · refine gj_lload (pc := 25) cx d_N_objection_25 (x := nTo u ((t * 7) + y)) rfl ?_
    refine gj_lload_n (pc := 27) cx d_N_objection_27 rfl (x := pp) rfl ?_
    refine gj_lcmp_ne (pc := 28) cx d_N_objection_28 d_N_objection_29 (tgt := 37) rfl (fun hb14 => ?_) (fun hb14 => ?_)
    · refine gj_iconst (pc := 37) cx d_N_objection_37 (v := nI 0) (by decide) ?_
      exact gj_iretR (pc := 38) cx hr hlk d_N_objection_38 (by unfold nObj; rw [if_pos, if_neg] <;> first | rfl | assumption | omega | (simp_all; done))
    · refine gj_bipush (pc := 32) cx d_N_objection_32 (v := (-6)) (by decide) ?_
      refine gj_goto (pc := 34) cx d_N_objection_34 (tgt := 38) rfl ?_
      exact gj_iretR (pc := 38) cx hr hlk d_N_objection_38 (by unfold nObj; rw [if_pos, if_pos] <;> first | rfl | assumption | omega | (simp_all; done))

set_option maxRecDepth 100000 in
set_option maxHeartbeats 4000000 in
theorem c_N_wouldTake (l : Launch) (D : va_G) (cI cJ : ClassId) (a : Nat → Nat) (me n f : Nat) (u : NS) (t : Nat) (y : Nat) (pp : Int64) (hok : nOk u) (ht : t < 141) (hy : y < 7) : MRi l y_N_wouldTake (wsM y_N_wouldTake b_N_wouldTake 5 (some .boolean)) { frames := 2, cells := 0, slots := 0, locals := 49 } D vwK (tyl cI cJ) (nW cI cJ a me n f u) [.ref (a 0), .int (nI t), .int (nI y), .long pp] (bI (nWould u t y pp)) := by
  obtain ⟨hco, hfu, hsu, hcn, hfr⟩ := id hok
  refine gj_enterR (own := R_N) (by decide) rfl (Nat.le_of_ble_eq_true rfl) rfl rfl (fun p e s m below meth c cx hr hlk hK => ?_)
  refine gj_aload_n (pc := 0) cx d_N_wouldTake_0 rfl (x := a 0) rfl ?_
  refine gj_get (pc := 1) (ci := 0) (C := R_N) (T := T_N) (N := 12) (v := .int (nI (nCo u))) cx hK gj_rP in_N d_N_wouldTake_1 0 rfl rfl 3 (by decide) (in_WT wm_36) rfl ?_
  refine gj_if_neN (pc := 4) cx d_N_wouldTake_4 (tgt := 37) rfl (by omega) (fun hb1 => ?_) (fun hb1 => ?_)
  · refine gj_iconst (pc := 37) cx d_N_wouldTake_37 (v := nI 0) (by decide) ?_
    exact gj_zretR (pc := 38) cx hr hlk d_N_wouldTake_38 rfl (by simp [nWould, bI, nI, hb1])
  · refine gj_aload_n (pc := 7) cx d_N_wouldTake_7 rfl (x := a 0) rfl ?_
    refine gj_get (pc := 8) (ci := 0) (C := R_N) (T := T_N) (N := 12) (v := .ref (a 5)) cx hK gj_rP in_N d_N_wouldTake_8 0 rfl rfl 10 (by decide) (in_WT wm_43) rfl ?_
    refine gj_iload_n (pc := 11) cx d_N_wouldTake_11 rfl (x := nI t) rfl ?_
    refine gj_bipush (pc := 12) cx d_N_wouldTake_12 (v := nI 7) (by decide) ?_
    refine gj_imulN (pc := 14) cx d_N_wouldTake_14 ?_
    refine gj_iload_n (pc := 15) cx d_N_wouldTake_15 rfl (x := nI y) rfl ?_
    refine gj_iaddN (pc := 16) cx d_N_wouldTake_16 ?_
    refine gj_lald (pc := 17) (i := (t * 7) + y) (f := nTo u) cx hK gj_rP d_N_wouldTake_17 5 1 rfl rfl (by omega) (by decide) ?_
    refine gj_lload_n (pc := 18) cx d_N_wouldTake_18 rfl (x := pp) rfl ?_
    refine gj_lcmp_eq (pc := 19) cx d_N_wouldTake_19 d_N_wouldTake_20 (tgt := 37) rfl (fun hb2 => ?_) (fun hb2 => ?_)
    · refine gj_iconst (pc := 37) cx d_N_wouldTake_37 (v := nI 0) (by decide) ?_
      exact gj_zretR (pc := 38) cx hr hlk d_N_wouldTake_38 rfl (by simp [nWould, bI, nI, hb1, hb2])
    · refine gj_aload_n (pc := 23) cx d_N_wouldTake_23 rfl (x := a 0) rfl ?_
      refine gj_iload_n (pc := 24) cx d_N_wouldTake_24 rfl (x := nI t) rfl ?_
      refine gj_iload_n (pc := 25) cx d_N_wouldTake_25 rfl (x := nI y) rfl ?_
      refine gj_lload_n (pc := 26) cx d_N_wouldTake_26 rfl (x := pp) rfl ?_
      refine gj_callVRi (pc := 27) (As := [.int (nI t), .int (nI y), .long pp]) (rest := []) (v := nObj u t y pp) cx hK (c_N_objection l D cI cJ a me n f u t y pp (by omega) (by omega) (by omega)) (cwV 3 cx.2.2.2.2 (good_V wm_166 wm_164 wm_165 wm_541 wm_3) rfl rfl rfl (by decide +kernel) ⟨Nat.le_of_ble_eq_true rfl, Nat.le_of_ble_eq_true rfl⟩) gj_rP 0 0 rfl rfl rfl rfl rfl (Nat.le_of_ble_eq_true rfl) d_N_wouldTake_27 ⟨Nat.zero_le _, Nat.zero_le _⟩ ?_
      refine gj_if_ne (pc := 30) cx d_N_wouldTake_30 (tgt := 37) rfl (fun hb3 => ?_) (fun hb3 => ?_)
      · refine gj_iconst (pc := 37) cx d_N_wouldTake_37 (v := nI 0) (by decide) ?_
        exact gj_zretR (pc := 38) cx hr hlk d_N_wouldTake_38 rfl (by simp [nWould, bI, nI, hb1, hb2, hb3])
      · refine gj_iconst (pc := 33) cx d_N_wouldTake_33 (v := nI 1) (by decide) ?_
        refine gj_goto (pc := 34) cx d_N_wouldTake_34 (tgt := 38) rfl ?_
        exact gj_zretR (pc := 38) cx hr hlk d_N_wouldTake_38 rfl (by simp [nWould, bI, nI, hb1, hb2, hb3])

set_option maxRecDepth 100000 in
set_option maxHeartbeats 4000000 in
theorem c_N_callsForReady (l : Launch) (D : va_G) (cI cJ : ClassId) (a : Nat → Nat) (me n f : Nat) (u : NS) (k : Nat) (i : Nat) (pp : Int64) (hn : n ≤ 7) (hf : f ≤ 7) (hk : k ≤ 4) (hi : i < 35) : MRi l y_N_callsForReady (wsM y_N_callsForReady b_N_callsForReady 5 (some .boolean)) { frames := 1, cells := 0, slots := 0, locals := 25 } D vwK (tyl cI cJ) (nW cI cJ a me n f u) [.ref (a 0), .int (nI k), .int (nI i), .long pp] (bI (nRdy u n f k i pp)) := by
  refine gj_enterR (own := R_N) (by decide) rfl (Nat.le_of_ble_eq_true rfl) rfl rfl (fun p e s m below meth c cx hr hlk hK => ?_)
  refine gj_aload_n (pc := 0) cx d_N_callsForReady_0 rfl (x := a 0) rfl ?_
  refine gj_get (pc := 1) (ci := 0) (C := R_N) (T := T_N) (N := 12) (v := .ref (a 1)) cx hK gj_rP in_N d_N_callsForReady_1 0 rfl rfl 6 (by decide) (in_WT wm_39) rfl ?_
  refine gj_iconst (pc := 4) cx d_N_callsForReady_4 (v := nI 2) (by decide) ?_
  refine gj_iload_n (pc := 5) cx d_N_callsForReady_5 rfl (x := nI i) rfl ?_
  refine gj_callSRi (pc := 6) (As := [.int (nI 2), .int (nI i)]) (rest := [.ref (a 1)]) (v := nI (70 + i)) cx hK (c_T_at l D (tyl cI cJ) 2 i ) (va_cwS 2 cx.2.2.2.2 (good_S wm_178 wm_176 wm_177 wm_6) rfl rfl rfl (by decide +kernel) ⟨Nat.le_of_ble_eq_true rfl, Nat.le_of_ble_eq_true rfl⟩) (fun _ _ _ => gj_P0) rfl rfl (Nat.le_of_ble_eq_true rfl) d_N_callsForReady_6 ⟨Nat.zero_le _, Nat.zero_le _⟩ ?_
  refine gj_lald (pc := 9) (i := 70 + i) (f := nSa u) cx hK gj_rP d_N_callsForReady_9 1 1 rfl rfl (by omega) (by decide) ?_
  refine gj_ldc2 (pc := 10) cx d_N_callsForReady_10 (v := (-1)) (in_WT wm_29) ?_
  refine gj_lcmp_eq (pc := 13) cx d_N_callsForReady_13 d_N_callsForReady_14 (tgt := 19) rfl (fun hb1 => ?_) (fun hb1 => ?_)
  · refine gj_iload_n (pc := 19) cx d_N_callsForReady_19 rfl (x := nI k) rfl ?_
    refine gj_iconst (pc := 20) cx d_N_callsForReady_20 (v := nI 1) (by decide) ?_
    refine gj_icmp_neN (pc := 21) cx d_N_callsForReady_21 (tgt := 56) rfl (by omega) (by omega) (fun hb2 => ?_) (fun hb2 => ?_)
    · refine gj_iload_n (pc := 56) cx d_N_callsForReady_56 rfl (x := nI k) rfl ?_
      refine gj_iconst (pc := 57) cx d_N_callsForReady_57 (v := nI 2) (by decide) ?_
      refine gj_icmp_neN (pc := 58) cx d_N_callsForReady_58 (tgt := 84) rfl (by omega) (by omega) (fun hb3 => ?_) (fun hb3 => ?_)
      · refine gj_iconst (pc := 84) cx d_N_callsForReady_84 (v := nI 0) (by decide) ?_
        exact gj_zretR (pc := 85) cx hr hlk d_N_callsForReady_85 rfl (by simp [nRdy, bI, nI, hb1, hb2, hb3])
      · refine gj_aload_n (pc := 61) cx d_N_callsForReady_61 rfl (x := a 0) rfl ?_
        refine gj_iconst (pc := 62) cx d_N_callsForReady_62 (v := nI 2) (by decide) ?_
        refine gj_iload_n (pc := 63) cx d_N_callsForReady_63 rfl (x := nI i) rfl ?_
        refine gj_callSRi (pc := 64) (As := [.int (nI 2), .int (nI i)]) (rest := [.ref (a 0)]) (v := nI (70 + i)) cx hK (c_T_at l D (tyl cI cJ) 2 i ) (va_cwS 2 cx.2.2.2.2 (good_S wm_178 wm_176 wm_177 wm_6) rfl rfl rfl (by decide +kernel) ⟨Nat.le_of_ble_eq_true rfl, Nat.le_of_ble_eq_true rfl⟩) (fun _ _ _ => gj_P0) rfl rfl (Nat.le_of_ble_eq_true rfl) d_N_callsForReady_64 ⟨Nat.zero_le _, Nat.zero_le _⟩ ?_
        refine gj_lload_n (pc := 67) cx d_N_callsForReady_67 rfl (x := pp) rfl ?_
        refine gj_callVRi (pc := 68) (As := [.int (nI (70 + i)), .long pp]) (rest := []) (v := nI (nTellOf u (70 + i) pp n)) cx hK (c_N_countTellersOf l D cI cJ a me n f u (70 + i) pp (by omega) (by omega)) (cwV 2 cx.2.2.2.2 (good_V wm_187 wm_185 wm_186 wm_544 wm_3) rfl rfl rfl (by decide +kernel) ⟨Nat.le_of_ble_eq_true rfl, Nat.le_of_ble_eq_true rfl⟩) gj_rP 0 0 rfl rfl rfl rfl rfl (Nat.le_of_ble_eq_true rfl) d_N_callsForReady_68 ⟨Nat.zero_le _, Nat.zero_le _⟩ ?_
        have hv4 := nTellOf_lt u (70 + i) pp n
        refine gj_aload_n (pc := 71) cx d_N_callsForReady_71 rfl (x := a 0) rfl ?_
        refine gj_get (pc := 72) (ci := 0) (C := R_N) (T := T_N) (N := 12) (v := .int (nI f)) cx hK gj_rP in_N d_N_callsForReady_72 0 rfl rfl 2 (by decide) (in_WT wm_35) rfl ?_
        refine gj_iconst (pc := 75) cx d_N_callsForReady_75 (v := nI 1) (by decide) ?_
        refine gj_iaddN (pc := 76) cx d_N_callsForReady_76 ?_
        refine gj_icmp_ltN (pc := 77) cx d_N_callsForReady_77 (tgt := 84) rfl (by omega) (by omega) (fun hb5 => ?_) (fun hb5 => ?_)
        · refine gj_iconst (pc := 84) cx d_N_callsForReady_84 (v := nI 0) (by decide) ?_
          exact gj_zretR (pc := 85) cx hr hlk d_N_callsForReady_85 rfl (by simp [nRdy, bI, nI, hb1, hb2, hb3, hb5])
        · refine gj_iconst (pc := 80) cx d_N_callsForReady_80 (v := nI 1) (by decide) ?_
          refine gj_goto (pc := 81) cx d_N_callsForReady_81 (tgt := 85) rfl ?_
          exact gj_zretR (pc := 85) cx hr hlk d_N_callsForReady_85 rfl (by simp [nRdy, bI, nI, hb1, hb2, hb3, hb5])
    · refine gj_aload_n (pc := 24) cx d_N_callsForReady_24 rfl (x := a 0) rfl ?_
      refine gj_iconst (pc := 25) cx d_N_callsForReady_25 (v := nI 1) (by decide) ?_
      refine gj_iload_n (pc := 26) cx d_N_callsForReady_26 rfl (x := nI i) rfl ?_
      refine gj_callSRi (pc := 27) (As := [.int (nI 1), .int (nI i)]) (rest := [.ref (a 0)]) (v := nI (35 + i)) cx hK (c_T_at l D (tyl cI cJ) 1 i ) (va_cwS 2 cx.2.2.2.2 (good_S wm_178 wm_176 wm_177 wm_6) rfl rfl rfl (by decide +kernel) ⟨Nat.le_of_ble_eq_true rfl, Nat.le_of_ble_eq_true rfl⟩) (fun _ _ _ => gj_P0) rfl rfl (Nat.le_of_ble_eq_true rfl) d_N_callsForReady_27 ⟨Nat.zero_le _, Nat.zero_le _⟩ ?_
      refine gj_lload_n (pc := 30) cx d_N_callsForReady_30 rfl (x := pp) rfl ?_
      refine gj_callVRi (pc := 31) (As := [.int (nI (35 + i)), .long pp]) (rest := []) (v := nI (nTellOf u (35 + i) pp n)) cx hK (c_N_countTellersOf l D cI cJ a me n f u (35 + i) pp (by omega) (by omega)) (cwV 2 cx.2.2.2.2 (good_V wm_187 wm_185 wm_186 wm_544 wm_3) rfl rfl rfl (by decide +kernel) ⟨Nat.le_of_ble_eq_true rfl, Nat.le_of_ble_eq_true rfl⟩) gj_rP 0 0 rfl rfl rfl rfl rfl (Nat.le_of_ble_eq_true rfl) d_N_callsForReady_31 ⟨Nat.zero_le _, Nat.zero_le _⟩ ?_
      have hv6 := nTellOf_lt u (35 + i) pp n
      refine gj_aload_n (pc := 34) cx d_N_callsForReady_34 rfl (x := a 0) rfl ?_
      refine gj_get (pc := 35) (ci := 0) (C := R_N) (T := T_N) (N := 12) (v := .int (nI n)) cx hK gj_rP in_N d_N_callsForReady_35 0 rfl rfl 1 (by decide) (in_WT wm_34) rfl ?_
      refine gj_aload_n (pc := 38) cx d_N_callsForReady_38 rfl (x := a 0) rfl ?_
      refine gj_get (pc := 39) (ci := 0) (C := R_N) (T := T_N) (N := 12) (v := .int (nI f)) cx hK gj_rP in_N d_N_callsForReady_39 0 rfl rfl 2 (by decide) (in_WT wm_35) rfl ?_
      refine gj_iaddN (pc := 42) cx d_N_callsForReady_42 ?_
      refine gj_iconst (pc := 43) cx d_N_callsForReady_43 (v := nI 2) (by decide) ?_
      refine gj_idivN (pc := 44) cx d_N_callsForReady_44 (by omega) (by omega) (by omega) ?_
      refine gj_iconst (pc := 45) cx d_N_callsForReady_45 (v := nI 1) (by decide) ?_
      refine gj_iaddN (pc := 46) cx d_N_callsForReady_46 ?_
      refine gj_icmp_ltN (pc := 47) cx d_N_callsForReady_47 (tgt := 54) rfl (by omega) (by omega) (fun hb7 => ?_) (fun hb7 => ?_)
      · refine gj_iconst (pc := 54) cx d_N_callsForReady_54 (v := nI 0) (by decide) ?_
        exact gj_zretR (pc := 55) cx hr hlk d_N_callsForReady_55 rfl (by simp [nRdy, bI, nI, hb1, hb2, hb7])
      · refine gj_iconst (pc := 50) cx d_N_callsForReady_50 (v := nI 1) (by decide) ?_
        refine gj_goto (pc := 51) cx d_N_callsForReady_51 (tgt := 55) rfl ?_
        exact gj_zretR (pc := 55) cx hr hlk d_N_callsForReady_55 rfl (by simp [nRdy, bI, nI, hb1, hb2, hb7])
  · refine gj_iconst (pc := 17) cx d_N_callsForReady_17 (v := nI 0) (by decide) ?_
    exact gj_zretR (pc := 18) cx hr hlk d_N_callsForReady_18 rfl (by simp [nRdy, bI, nI, hb1])

set_option maxRecDepth 100000 in
set_option maxHeartbeats 4000000 in
theorem c_N_isAcceptable (l : Launch) (D : va_G) (cI cJ : ClassId) (a : Nat → Nat) (me n f : Nat) (u : NS) (i : Nat) (pp : Int64) (hok : nOk u) (hn : n ≤ 7) (hf : f ≤ 7) (hi : i < 35) : MRi l y_N_isAcceptable (wsM y_N_isAcceptable b_N_isAcceptable 4 (some .boolean)) { frames := 1, cells := 0, slots := 0, locals := 25 } D vwK (tyl cI cJ) (nW cI cJ a me n f u) [.ref (a 0), .int (nI i), .long pp] (bI (nAcq u n f i pp)) := by
  obtain ⟨hco, hfu, hsu, hcn, hfr⟩ := id hok
  refine gj_enterR (own := R_N) (by decide) rfl (Nat.le_of_ble_eq_true rfl) rfl rfl (fun p e s m below meth c cx hr hlk hK => ?_)
  refine gj_iload_n (pc := 0) cx d_N_isAcceptable_0 rfl (x := nI i) rfl ?_
  refine gj_callSRi (pc := 1) (As := [.int (nI i)]) (rest := []) (v := nI (i % 5 + 1)) cx hK (c_T_seq l D (tyl cI cJ) i (by omega)) (va_cwS 1 cx.2.2.2.2 (good_S wm_172 wm_170 wm_171 wm_6) rfl rfl rfl (by decide +kernel) ⟨Nat.le_of_ble_eq_true rfl, Nat.le_of_ble_eq_true rfl⟩) (fun _ _ _ => gj_P0) rfl rfl (Nat.le_of_ble_eq_true rfl) d_N_isAcceptable_1 ⟨Nat.zero_le _, Nat.zero_le _⟩ ?_
  refine gj_aload_n (pc := 4) cx d_N_isAcceptable_4 rfl (x := a 0) rfl ?_
  refine gj_get (pc := 5) (ci := 0) (C := R_N) (T := T_N) (N := 12) (v := .ref (a 2)) cx hK gj_rP in_N d_N_isAcceptable_5 0 rfl rfl 7 (by decide) (in_WT wm_40) rfl ?_
  refine gj_iload_n (pc := 8) cx d_N_isAcceptable_8 rfl (x := nI i) rfl ?_
  refine gj_callSRi (pc := 9) (As := [.int (nI i)]) (rest := [.ref (a 2), .int (nI (i % 5 + 1))]) (v := nI (i % 35 / 5)) cx hK (c_T_account l D (tyl cI cJ) i (by omega)) (va_cwS 1 cx.2.2.2.2 (good_S wm_154 wm_152 wm_153 wm_6) rfl rfl rfl (by decide +kernel) ⟨Nat.le_of_ble_eq_true rfl, Nat.le_of_ble_eq_true rfl⟩) (fun _ _ _ => gj_P0) rfl rfl (Nat.le_of_ble_eq_true rfl) d_N_isAcceptable_9 ⟨Nat.zero_le _, Nat.zero_le _⟩ ?_
  refine gj_ialdN (pc := 12) (i := i % 35 / 5) (f := nCn u) cx hK gj_rP d_N_isAcceptable_12 2 0 rfl rfl (by omega) (by decide) ?_
  have hv1 := hcn (i % 35 / 5)
  refine gj_icmp_leN (pc := 13) cx d_N_isAcceptable_13 (tgt := 29) rfl (by omega) (by omega) (fun hb2 => ?_) (fun hb2 => ?_)
  · refine gj_iconst (pc := 29) cx d_N_isAcceptable_29 (v := nI 0) (by decide) ?_
    exact gj_zretR (pc := 30) cx hr hlk d_N_isAcceptable_30 rfl (by simp [nAcq, bI, nI, hb2])
  · refine gj_aload_n (pc := 16) cx d_N_isAcceptable_16 rfl (x := a 0) rfl ?_
    refine gj_get (pc := 17) (ci := 0) (C := R_N) (T := T_N) (N := 12) (v := .ref (a 6)) cx hK gj_rP in_N d_N_isAcceptable_17 0 rfl rfl 11 (by decide) (in_WT wm_44) rfl ?_
    refine gj_iload_n (pc := 20) cx d_N_isAcceptable_20 rfl (x := nI i) rfl ?_
    refine gj_lald (pc := 21) (i := i) (f := nAc u) cx hK gj_rP d_N_isAcceptable_21 6 1 rfl rfl (by omega) (by decide) ?_
    refine gj_ldc2 (pc := 22) cx d_N_isAcceptable_22 (v := (-1)) (in_WT wm_29) ?_
    refine gj_lcmp_eq (pc := 25) cx d_N_isAcceptable_25 d_N_isAcceptable_26 (tgt := 31) rfl (fun hb3 => ?_) (fun hb3 => ?_)
    · refine gj_aload_n (pc := 31) cx d_N_isAcceptable_31 rfl (x := a 0) rfl ?_
      refine gj_iconst (pc := 32) cx d_N_isAcceptable_32 (v := nI 2) (by decide) ?_
      refine gj_iload_n (pc := 33) cx d_N_isAcceptable_33 rfl (x := nI i) rfl ?_
      refine gj_callSRi (pc := 34) (As := [.int (nI 2), .int (nI i)]) (rest := [.ref (a 0)]) (v := nI (70 + i)) cx hK (c_T_at l D (tyl cI cJ) 2 i ) (va_cwS 2 cx.2.2.2.2 (good_S wm_178 wm_176 wm_177 wm_6) rfl rfl rfl (by decide +kernel) ⟨Nat.le_of_ble_eq_true rfl, Nat.le_of_ble_eq_true rfl⟩) (fun _ _ _ => gj_P0) rfl rfl (Nat.le_of_ble_eq_true rfl) d_N_isAcceptable_34 ⟨Nat.zero_le _, Nat.zero_le _⟩ ?_
      refine gj_lload_n (pc := 37) cx d_N_isAcceptable_37 rfl (x := pp) rfl ?_
      refine gj_callVRi (pc := 38) (As := [.int (nI (70 + i)), .long pp]) (rest := []) (v := nI (nTellOf u (70 + i) pp n)) cx hK (c_N_countTellersOf l D cI cJ a me n f u (70 + i) pp (by omega) (by omega)) (cwV 2 cx.2.2.2.2 (good_V wm_187 wm_185 wm_186 wm_544 wm_3) rfl rfl rfl (by decide +kernel) ⟨Nat.le_of_ble_eq_true rfl, Nat.le_of_ble_eq_true rfl⟩) gj_rP 0 0 rfl rfl rfl rfl rfl (Nat.le_of_ble_eq_true rfl) d_N_isAcceptable_38 ⟨Nat.zero_le _, Nat.zero_le _⟩ ?_
      have hv4 := nTellOf_lt u (70 + i) pp n
      refine gj_iconst (pc := 41) cx d_N_isAcceptable_41 (v := nI 2) (by decide) ?_
      refine gj_aload_n (pc := 42) cx d_N_isAcceptable_42 rfl (x := a 0) rfl ?_
      refine gj_get (pc := 43) (ci := 0) (C := R_N) (T := T_N) (N := 12) (v := .int (nI f)) cx hK gj_rP in_N d_N_isAcceptable_43 0 rfl rfl 2 (by decide) (in_WT wm_35) rfl ?_
      refine gj_imulN (pc := 46) cx d_N_isAcceptable_46 ?_
      refine gj_iconst (pc := 47) cx d_N_isAcceptable_47 (v := nI 1) (by decide) ?_
      refine gj_iaddN (pc := 48) cx d_N_isAcceptable_48 ?_
      refine gj_icmp_geN (pc := 49) cx d_N_isAcceptable_49 (tgt := 71) rfl (by omega) (by omega) (fun hb5 => ?_) (fun hb5 => ?_)
      · refine gj_iconst (pc := 71) cx d_N_isAcceptable_71 (v := nI 1) (by decide) ?_
        refine gj_goto (pc := 72) cx d_N_isAcceptable_72 (tgt := 76) rfl ?_
        exact gj_zretR (pc := 76) cx hr hlk d_N_isAcceptable_76 rfl (by simp [nAcq, bI, nI, hb2, hb3, hb5])
      · refine gj_aload_n (pc := 52) cx d_N_isAcceptable_52 rfl (x := a 0) rfl ?_
        refine gj_iconst (pc := 53) cx d_N_isAcceptable_53 (v := nI 3) (by decide) ?_
        refine gj_iload_n (pc := 54) cx d_N_isAcceptable_54 rfl (x := nI i) rfl ?_
        refine gj_callSRi (pc := 55) (As := [.int (nI 3), .int (nI i)]) (rest := [.ref (a 0)]) (v := nI (105 + i)) cx hK (c_T_at l D (tyl cI cJ) 3 i ) (va_cwS 2 cx.2.2.2.2 (good_S wm_178 wm_176 wm_177 wm_6) rfl rfl rfl (by decide +kernel) ⟨Nat.le_of_ble_eq_true rfl, Nat.le_of_ble_eq_true rfl⟩) (fun _ _ _ => gj_P0) rfl rfl (Nat.le_of_ble_eq_true rfl) d_N_isAcceptable_55 ⟨Nat.zero_le _, Nat.zero_le _⟩ ?_
        refine gj_lload_n (pc := 58) cx d_N_isAcceptable_58 rfl (x := pp) rfl ?_
        refine gj_callVRi (pc := 59) (As := [.int (nI (105 + i)), .long pp]) (rest := []) (v := nI (nTellOf u (105 + i) pp n)) cx hK (c_N_countTellersOf l D cI cJ a me n f u (105 + i) pp (by omega) (by omega)) (cwV 2 cx.2.2.2.2 (good_V wm_187 wm_185 wm_186 wm_544 wm_3) rfl rfl rfl (by decide +kernel) ⟨Nat.le_of_ble_eq_true rfl, Nat.le_of_ble_eq_true rfl⟩) gj_rP 0 0 rfl rfl rfl rfl rfl (Nat.le_of_ble_eq_true rfl) d_N_isAcceptable_59 ⟨Nat.zero_le _, Nat.zero_le _⟩ ?_
        have hv6 := nTellOf_lt u (105 + i) pp n
        refine gj_aload_n (pc := 62) cx d_N_isAcceptable_62 rfl (x := a 0) rfl ?_
        refine gj_get (pc := 63) (ci := 0) (C := R_N) (T := T_N) (N := 12) (v := .int (nI f)) cx hK gj_rP in_N d_N_isAcceptable_63 0 rfl rfl 2 (by decide) (in_WT wm_35) rfl ?_
        refine gj_iconst (pc := 66) cx d_N_isAcceptable_66 (v := nI 1) (by decide) ?_
        refine gj_iaddN (pc := 67) cx d_N_isAcceptable_67 ?_
        refine gj_icmp_ltN (pc := 68) cx d_N_isAcceptable_68 (tgt := 75) rfl (by omega) (by omega) (fun hb7 => ?_) (fun hb7 => ?_)
        · refine gj_iconst (pc := 75) cx d_N_isAcceptable_75 (v := nI 0) (by decide) ?_
          exact gj_zretR (pc := 76) cx hr hlk d_N_isAcceptable_76 rfl (by simp [nAcq, bI, nI, hb2, hb3, hb5, hb7])
        · refine gj_iconst (pc := 71) cx d_N_isAcceptable_71 (v := nI 1) (by decide) ?_
          refine gj_goto (pc := 72) cx d_N_isAcceptable_72 (tgt := 76) rfl ?_
          exact gj_zretR (pc := 76) cx hr hlk d_N_isAcceptable_76 rfl (by simp [nAcq, bI, nI, hb2, hb3, hb5, hb7])
    · refine gj_iconst (pc := 29) cx d_N_isAcceptable_29 (v := nI 0) (by decide) ?_
      exact gj_zretR (pc := 30) cx hr hlk d_N_isAcceptable_30 rfl (by simp [nAcq, bI, nI, hb2, hb3])
