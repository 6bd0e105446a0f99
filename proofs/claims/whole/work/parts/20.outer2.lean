/-! Contracts of the outer class, its writers, laid by wip/gen/m_outer.py -/
set_option maxRecDepth 100000 in
set_option maxHeartbeats 4000000 in
theorem c_E_crash (l : Launch) (D : va_G) (cI cJ cO : ClassId) (h hN : Nat) (ad : Nat → Nat → Nat) (n f fa : Nat) (σ : Nat → NS) (nd : Int32) (hn : n ≤ 7) (hs : ∀ x, x < n → nInv n (σ x)) (sz : Nat) : MWi l y_E_crash (wsM y_E_crash b_E_crash 2 (some .boolean)) { frames := 2, cells := 0, slots := 0, locals := 44 } D vwK (tyo cI cJ cO) (oW cI cJ cO h hN ad n f fa σ) (oW cI cJ cO h hN ad n f fa ((eCrash n σ nd).2)) sz [.ref h, .int nd] (bI ((eCrash n σ nd).1)) := by
  refine gj_enterW (own := R_E) (by decide) rfl (Nat.le_of_ble_eq_true rfl) rfl rfl (fun p e s m below meth c cx hr hlk hK hsz => ?_)
  have hA : ∀ q, s.heap.size ≤ q → va_A (oW cI cJ cO h hN ad n f fa σ) sz q := fun q h => Or.inr (hsz ▸ h)
  have hKn : va_K D vwK (tyl cI cJ) s := hK.sub [0, 1] rfl
  refine gj_aload_n (pc := 0) cx d_E_crash_0 rfl (x := h) rfl ?_
  refine gj_iload_n (pc := 1) cx d_E_crash_1 rfl (x := nd) rfl ?_
  refine gj_callVRi (pc := 2) (As := [.int nd]) (rest := []) (v := bI (eUp n σ nd)) cx hK (c_E_isUp l D cI cJ cO h hN ad n f fa σ nd (by omega) (hs)) (cwV 1 cx.2.2.2.2 (good_V wm_73 wm_71 wm_72 wm_532 wm_1) rfl rfl rfl (by decide +kernel) ⟨Nat.le_of_ble_eq_true rfl, Nat.le_of_ble_eq_true rfl⟩) gj_wP 0 1 rfl rfl rfl rfl rfl (Nat.le_of_ble_eq_true rfl) d_E_crash_2 ⟨Nat.zero_le _, Nat.zero_le _⟩ ?_
  refine gj_if_neB (pc := 5) cx d_E_crash_5 (tgt := 10) rfl (fun hb1 => ?_) (fun hb1 => ?_)
  · obtain ⟨x, hx, rfl, hxu⟩ := eUp_of hn hb1
    refine gj_aload_n (pc := 10) cx d_E_crash_10 rfl (x := h) rfl ?_
    refine gj_get (pc := 11) (ci := 1) (C := R_E) (T := T_E) (N := 4) (v := .ref hN) cx hK gj_wP in_E d_E_crash_11 0 rfl rfl 2 (by decide) (in_WT wm_61) rfl ?_
    refine gj_iload_n (pc := 14) cx d_E_crash_14 rfl (x := nI x) rfl ?_
    refine gj_aald (pc := 15) (i := x) (x := ad x 0) cx hK gj_wP d_E_crash_15 1 2 rfl rfl (by omega) (by omega) rfl ?_
    refine gj_callVWv (pc := 16) (As := []) (rest := []) (ws' := oW cI cJ cO h hN ad n f fa (va_up σ x (nDown (σ x)))) cx hKn hA (fun sz => c_N_goDown l D cI cJ (ad x) x n f (σ x)   sz) (cwV 0 cx.2.2.2.2 (good_V wm_114 wm_248 wm_112 wm_113 wm_3) rfl rfl rfl (by decide +kernel) ⟨Nat.le_of_ble_eq_true rfl, Nat.le_of_ble_eq_true rfl⟩) (oW_J (by omega) _) 0 0 rfl rfl rfl rfl rfl (Nat.le_of_ble_eq_true rfl) d_E_crash_16 ⟨Nat.zero_le _, Nat.zero_le _⟩ ?_
    refine gj_iconst (pc := 19) cx d_E_crash_19 (v := nI 1) (by decide) ?_
    exact gj_zretW (pc := 20) cx hr hlk d_E_crash_20 rfl (by rw [eCrash, if_pos hb1, xN_nI (by omega)] <;> rfl) (by rw [eCrash, if_pos hb1, xN_nI (by omega)] <;> rfl)
  · refine gj_iconst (pc := 8) cx d_E_crash_8 (v := nI 0) (by decide) ?_
    exact gj_zretW (pc := 9) cx hr hlk d_E_crash_9 rfl (by rw [eCrash, if_neg (by rw [hb1]; decide)] <;> rfl) (by rw [eCrash, if_neg (by rw [hb1]; decide)] <;> rfl)

set_option maxRecDepth 100000 in
set_option maxHeartbeats 4000000 in
theorem c_E_restart (l : Launch) (D : va_G) (cI cJ cO : ClassId) (h hN : Nat) (ad : Nat → Nat → Nat) (n f fa : Nat) (σ : Nat → NS) (nd : Int32) (hn : n ≤ 7) (hs : ∀ x, x < n → nInv n (σ x)) (sz : Nat) : MWi l y_E_restart (wsM y_E_restart b_E_restart 2 (some .boolean)) { frames := 2, cells := 0, slots := 0, locals := 42 } D vwK (tyo cI cJ cO) (oW cI cJ cO h hN ad n f fa σ) (oW cI cJ cO h hN ad n f fa ((eRest n σ nd).2)) sz [.ref h, .int nd] (bI ((eRest n σ nd).1)) := by
  refine gj_enterW (own := R_E) (by decide) rfl (Nat.le_of_ble_eq_true rfl) rfl rfl (fun p e s m below meth c cx hr hlk hK hsz => ?_)
  have hA : ∀ q, s.heap.size ≤ q → va_A (oW cI cJ cO h hN ad n f fa σ) sz q := fun q h => Or.inr (hsz ▸ h)
  have hKn : va_K D vwK (tyl cI cJ) s := hK.sub [0, 1] rfl
  refine gj_aload_n (pc := 0) cx d_E_restart_0 rfl (x := h) rfl ?_
  refine gj_iload_n (pc := 1) cx d_E_restart_1 rfl (x := nd) rfl ?_
  refine gj_callVRi (pc := 2) (As := [.int nd]) (rest := []) (v := eState n σ nd) cx hK (c_E_state l D cI cJ cO h hN ad n f fa σ nd (by omega) (hs)) (cwV 1 cx.2.2.2.2 (good_V wm_134 wm_131 wm_132 wm_133 wm_1) rfl rfl rfl (by decide +kernel) ⟨Nat.le_of_ble_eq_true rfl, Nat.le_of_ble_eq_true rfl⟩) gj_wP 0 1 rfl rfl rfl rfl rfl (Nat.le_of_ble_eq_true rfl) d_E_restart_2 ⟨Nat.zero_le _, Nat.zero_le _⟩ ?_
  refine gj_iconst (pc := 5) cx d_E_restart_5 (v := nI 1) (by decide) ?_
  refine gj_icmp_eq (pc := 6) cx d_E_restart_6 (tgt := 11) rfl (fun hb1 => ?_) (fun hb1 => ?_)
  · obtain ⟨x, hx, rfl, hxs⟩ := eState_of (c := 1) hn (by omega) (fun y hy => (hs y hy).1.1) hb1
    refine gj_aload_n (pc := 11) cx d_E_restart_11 rfl (x := h) rfl ?_
    refine gj_get (pc := 12) (ci := 1) (C := R_E) (T := T_E) (N := 4) (v := .ref hN) cx hK gj_wP in_E d_E_restart_12 0 rfl rfl 2 (by decide) (in_WT wm_61) rfl ?_
    refine gj_iload_n (pc := 15) cx d_E_restart_15 rfl (x := nI x) rfl ?_
    refine gj_aald (pc := 16) (i := x) (x := ad x 0) cx hK gj_wP d_E_restart_16 1 2 rfl rfl (by omega) (by omega) rfl ?_
    refine gj_callVWv (pc := 17) (As := []) (rest := []) (ws' := oW cI cJ cO h hN ad n f fa (va_up σ x (sCo (σ x) 0))) cx hKn hA (fun sz => c_N_comeUp l D cI cJ (ad x) x n f (σ x)   sz) (cwV 0 cx.2.2.2.2 (good_V wm_256 wm_253 wm_254 wm_255 wm_3) rfl rfl rfl (by decide +kernel) ⟨Nat.le_of_ble_eq_true rfl, Nat.le_of_ble_eq_true rfl⟩) (oW_J (by omega) _) 0 0 rfl rfl rfl rfl rfl (Nat.le_of_ble_eq_true rfl) d_E_restart_17 ⟨Nat.zero_le _, Nat.zero_le _⟩ ?_
    refine gj_iconst (pc := 20) cx d_E_restart_20 (v := nI 1) (by decide) ?_
    exact gj_zretW (pc := 21) cx hr hlk d_E_restart_21 rfl (by rw [eRest, if_pos hb1, xN_nI (by omega)] <;> rfl) (by rw [eRest, if_pos hb1, xN_nI (by omega)] <;> rfl)
  · refine gj_iconst (pc := 9) cx d_E_restart_9 (v := nI 0) (by decide) ?_
    exact gj_zretW (pc := 10) cx hr hlk d_E_restart_10 rfl (by rw [eRest, if_neg hb1] <;> rfl) (by rw [eRest, if_neg hb1] <;> rfl)

set_option maxRecDepth 100000 in
set_option maxHeartbeats 4000000 in
theorem c_E_fuse (l : Launch) (D : va_G) (cI cJ cO : ClassId) (h hN : Nat) (ad : Nat → Nat → Nat) (n f fa : Nat) (σ : Nat → NS) (nd : Int32) (kd : Int32) (hn : n ≤ 7) (hs : ∀ x, x < n → nInv n (σ x)) (sz : Nat) : MWi l y_E_fuse (wsM y_E_fuse b_E_fuse 3 (some .boolean)) { frames := 2, cells := 0, slots := 0, locals := 42 } D vwK (tyo cI cJ cO) (oW cI cJ cO h hN ad n f fa σ) (oW cI cJ cO h hN ad n f fa ((eFuse n σ nd kd).2)) sz [.ref h, .int nd, .int kd] (bI ((eFuse n σ nd kd).1)) := by
  refine gj_enterW (own := R_E) (by decide) rfl (Nat.le_of_ble_eq_true rfl) rfl rfl (fun p e s m below meth c cx hr hlk hK hsz => ?_)
  have hA : ∀ q, s.heap.size ≤ q → va_A (oW cI cJ cO h hN ad n f fa σ) sz q := fun q h => Or.inr (hsz ▸ h)
  have hKn : va_K D vwK (tyl cI cJ) s := hK.sub [0, 1] rfl
  refine gj_aload_n (pc := 0) cx d_E_fuse_0 rfl (x := h) rfl ?_
  refine gj_iload_n (pc := 1) cx d_E_fuse_1 rfl (x := nd) rfl ?_
  refine gj_callVRi (pc := 2) (As := [.int nd]) (rest := []) (v := bI (eUp n σ nd)) cx hK (c_E_isUp l D cI cJ cO h hN ad n f fa σ nd (by omega) (hs)) (cwV 1 cx.2.2.2.2 (good_V wm_73 wm_71 wm_72 wm_532 wm_1) rfl rfl rfl (by decide +kernel) ⟨Nat.le_of_ble_eq_true rfl, Nat.le_of_ble_eq_true rfl⟩) gj_wP 0 1 rfl rfl rfl rfl rfl (Nat.le_of_ble_eq_true rfl) d_E_fuse_2 ⟨Nat.zero_le _, Nat.zero_le _⟩ ?_
  refine gj_if_eqB (pc := 5) cx d_E_fuse_5 (tgt := 18) rfl (fun hb1 => ?_) (fun hb1 => ?_)
  · refine gj_iconst (pc := 18) cx d_E_fuse_18 (v := nI 0) (by decide) ?_
    exact gj_zretW (pc := 19) cx hr hlk d_E_fuse_19 rfl (by rw [eFuse, if_neg (fun z => by rw [hb1] at z; cases z.1)] <;> rfl) (by rw [eFuse, if_neg (fun z => by rw [hb1] at z; cases z.1)] <;> rfl)
  · refine gj_iload_n (pc := 8) cx d_E_fuse_8 rfl (x := kd) rfl ?_
    refine gj_if_lt (pc := 9) cx d_E_fuse_9 (tgt := 18) rfl (fun hb2 => ?_) (fun hb2 => ?_)
    · refine gj_iconst (pc := 18) cx d_E_fuse_18 (v := nI 0) (by decide) ?_
      exact gj_zretW (pc := 19) cx hr hlk d_E_fuse_19 rfl (by rw [eFuse, if_neg (fun z => z.2.1 hb2)] <;> rfl) (by rw [eFuse, if_neg (fun z => z.2.1 hb2)] <;> rfl)
    · refine gj_iload_n (pc := 12) cx d_E_fuse_12 rfl (x := kd) rfl ?_
      refine gj_bipush (pc := 13) cx d_E_fuse_13 (v := nI 9) (by decide) ?_
      refine gj_icmp_le (pc := 15) cx d_E_fuse_15 (tgt := 20) rfl (fun hb3 => ?_) (fun hb3 => ?_)
      · obtain ⟨x, hx, rfl, hxu⟩ := eUp_of hn hb1
        obtain ⟨k, hk, rfl⟩ := nI_of2 (M := 9) (n := 9) (by decide) hb2 hb3
        refine gj_aload_n (pc := 20) cx d_E_fuse_20 rfl (x := h) rfl ?_
        refine gj_get (pc := 21) (ci := 1) (C := R_E) (T := T_E) (N := 4) (v := .ref hN) cx hK gj_wP in_E d_E_fuse_21 0 rfl rfl 2 (by decide) (in_WT wm_61) rfl ?_
        refine gj_iload_n (pc := 24) cx d_E_fuse_24 rfl (x := nI x) rfl ?_
        refine gj_aald (pc := 25) (i := x) (x := ad x 0) cx hK gj_wP d_E_fuse_25 1 2 rfl rfl (by omega) (by omega) rfl ?_
        refine gj_iload_n (pc := 26) cx d_E_fuse_26 rfl (x := nI k) rfl ?_
        refine gj_callVWv (pc := 27) (As := [.int (nI k)]) (rest := []) (ws' := oW cI cJ cO h hN ad n f fa (va_up σ x (sFu (σ x) k))) cx hKn hA (fun sz => c_N_setFuse l D cI cJ (ad x) x n f (σ x) k  sz) (cwV 1 cx.2.2.2.2 (good_V wm_264 wm_261 wm_262 wm_263 wm_3) rfl rfl rfl (by decide +kernel) ⟨Nat.le_of_ble_eq_true rfl, Nat.le_of_ble_eq_true rfl⟩) (oW_J (by omega) _) 0 0 rfl rfl rfl rfl rfl (Nat.le_of_ble_eq_true rfl) d_E_fuse_27 ⟨Nat.zero_le _, Nat.zero_le _⟩ ?_
        refine gj_iconst (pc := 30) cx d_E_fuse_30 (v := nI 1) (by decide) ?_
        exact gj_zretW (pc := 31) cx hr hlk d_E_fuse_31 rfl (by rw [eFuse, if_pos ⟨hb1, hb2, hb3⟩, xN_nI (by omega), xN_nI (by omega)] <;> rfl) (by rw [eFuse, if_pos ⟨hb1, hb2, hb3⟩, xN_nI (by omega), xN_nI (by omega)] <;> rfl)
      · refine gj_iconst (pc := 18) cx d_E_fuse_18 (v := nI 0) (by decide) ?_
        exact gj_zretW (pc := 19) cx hr hlk d_E_fuse_19 rfl (by rw [eFuse, if_neg (fun z => hb3 z.2.2)] <;> rfl) (by rw [eFuse, if_neg (fun z => hb3 z.2.2)] <;> rfl)

set_option maxRecDepth 100000 in
set_option maxHeartbeats 4000000 in
theorem c_E_mark (l : Launch) (D : va_G) (cI cJ cO : ClassId) (h hN : Nat) (ad : Nat → Nat → Nat) (n f fa : Nat) (σ : Nat → NS) (nd : Int32) (hn : n ≤ 7) (hs : ∀ x, x < n → nInv n (σ x)) (sz : Nat) : MWi l y_E_mark (wsM y_E_mark b_E_mark 2 (some .int)) { frames := 4, cells := 0, slots := 0, locals := 90 } D vwK (tyo cI cJ cO) (oW cI cJ cO h hN ad n f fa σ) (oW cI cJ cO h hN ad n f fa ((eMark n σ nd).2)) sz [.ref h, .int nd] ((eMark n σ nd).1) := by
  refine gj_enterW (own := R_E) (by decide) rfl (Nat.le_of_ble_eq_true rfl) rfl rfl (fun p e s m below meth c cx hr hlk hK hsz => ?_)
  have hA : ∀ q, s.heap.size ≤ q → va_A (oW cI cJ cO h hN ad n f fa σ) sz q := fun q h => Or.inr (hsz ▸ h)
  have hKn : va_K D vwK (tyl cI cJ) s := hK.sub [0, 1] rfl
  refine gj_aload_n (pc := 0) cx d_E_mark_0 rfl (x := h) rfl ?_
  refine gj_iload_n (pc := 1) cx d_E_mark_1 rfl (x := nd) rfl ?_
  refine gj_callVRi (pc := 2) (As := [.int nd]) (rest := []) (v := bI (eUp n σ nd)) cx hK (c_E_isUp l D cI cJ cO h hN ad n f fa σ nd (by omega) (hs)) (cwV 1 cx.2.2.2.2 (good_V wm_73 wm_71 wm_72 wm_532 wm_1) rfl rfl rfl (by decide +kernel) ⟨Nat.le_of_ble_eq_true rfl, Nat.le_of_ble_eq_true rfl⟩) gj_wP 0 1 rfl rfl rfl rfl rfl (Nat.le_of_ble_eq_true rfl) d_E_mark_2 ⟨Nat.zero_le _, Nat.zero_le _⟩ ?_
  refine gj_if_eqB (pc := 5) cx d_E_mark_5 (tgt := 20) rfl (fun hb1 => ?_) (fun hb1 => ?_)
  · refine gj_iconst (pc := 20) cx d_E_mark_20 (v := (-1)) (by decide) ?_
    exact gj_iretW (pc := 21) cx hr hlk d_E_mark_21 (by rw [eMark, if_neg (by rw [hb1]; decide)] <;> rfl) (by rw [eMark, if_neg (by rw [hb1]; decide)] <;> rfl)
  · obtain ⟨x, hx, rfl, hxu⟩ := eUp_of hn hb1
    refine gj_aload_n (pc := 8) cx d_E_mark_8 rfl (x := h) rfl ?_
    refine gj_get (pc := 9) (ci := 1) (C := R_E) (T := T_E) (N := 4) (v := .ref hN) cx hK gj_wP in_E d_E_mark_9 0 rfl rfl 2 (by decide) (in_WT wm_61) rfl ?_
    refine gj_iload_n (pc := 12) cx d_E_mark_12 rfl (x := nI x) rfl ?_
    refine gj_aald (pc := 13) (i := x) (x := ad x 0) cx hK gj_wP d_E_mark_13 1 2 rfl rfl (by omega) (by omega) rfl ?_
    refine gj_callVWi (pc := 14) (As := []) (rest := []) (v := (nMarkW (σ x) n).1) (ws' := oW cI cJ cO h hN ad n f fa (va_up σ x ((nMarkW (σ x) n).2))) cx hKn hA (fun sz => c_N_writeMark l D cI cJ (ad x) x n f (σ x)  ((hs x (by omega)).1) (by omega) sz) (cwV 0 cx.2.2.2.2 (good_V wm_272 wm_269 wm_270 wm_271 wm_3) rfl rfl rfl (by decide +kernel) ⟨Nat.le_of_ble_eq_true rfl, Nat.le_of_ble_eq_true rfl⟩) (oW_J (by omega) _) 0 0 rfl rfl rfl rfl rfl (Nat.le_of_ble_eq_true rfl) d_E_mark_14 ⟨Nat.zero_le _, Nat.zero_le _⟩ ?_
    refine gj_goto (pc := 17) cx d_E_mark_17 (tgt := 21) rfl ?_
    exact gj_iretW (pc := 21) cx hr hlk d_E_mark_21 (by rw [eMark, if_pos hb1, xN_nI (by omega)] <;> rfl) (by rw [eMark, if_pos hb1, xN_nI (by omega)] <;> rfl)

set_option maxRecDepth 100000 in
set_option maxHeartbeats 4000000 in
theorem c_E_corrupt (l : Launch) (D : va_G) (cI cJ cO : ClassId) (h hN : Nat) (ad : Nat → Nat → Nat) (n f fa : Nat) (σ : Nat → NS) (nd : Int32) (hn : n ≤ 7) (hs : ∀ x, x < n → nInv n (σ x)) (hf : f ≤ 7) (hfa : fa ≤ 7) (sz : Nat) : MWi l y_E_corrupt (wsM y_E_corrupt b_E_corrupt 2 (some .boolean)) { frames := 2, cells := 0, slots := 0, locals := 42 } D vwK (tyo cI cJ cO) (oW cI cJ cO h hN ad n f fa σ) (oW cI cJ cO h hN ad n f ((eCorrupt n f fa σ nd).2.1) ((eCorrupt n f fa σ nd).2.2)) sz [.ref h, .int nd] (bI ((eCorrupt n f fa σ nd).1)) := by
  refine gj_enterW (own := R_E) (by decide) rfl (Nat.le_of_ble_eq_true rfl) rfl rfl (fun p e s m below meth c cx hr hlk hK hsz => ?_)
  have hA : ∀ q, s.heap.size ≤ q → va_A (oW cI cJ cO h hN ad n f fa σ) sz q := fun q h => Or.inr (hsz ▸ h)
  have hKn : va_K D vwK (tyl cI cJ) s := hK.sub [0, 1] rfl
  refine gj_aload_n (pc := 0) cx d_E_corrupt_0 rfl (x := h) rfl ?_
  refine gj_iload_n (pc := 1) cx d_E_corrupt_1 rfl (x := nd) rfl ?_
  refine gj_callVRi (pc := 2) (As := [.int nd]) (rest := []) (v := bI (eCor n σ nd)) cx hK (c_E_isCorrect l D cI cJ cO h hN ad n f fa σ nd (by omega) (hs)) (cwV 1 cx.2.2.2.2 (good_V wm_122 wm_120 wm_121 wm_538 wm_1) rfl rfl rfl (by decide +kernel) ⟨Nat.le_of_ble_eq_true rfl, Nat.le_of_ble_eq_true rfl⟩) gj_wP 0 1 rfl rfl rfl rfl rfl (Nat.le_of_ble_eq_true rfl) d_E_corrupt_2 ⟨Nat.zero_le _, Nat.zero_le _⟩ ?_
  refine gj_if_eqB (pc := 5) cx d_E_corrupt_5 (tgt := 19) rfl (fun hb1 => ?_) (fun hb1 => ?_)
  · refine gj_iconst (pc := 19) cx d_E_corrupt_19 (v := nI 0) (by decide) ?_
    exact gj_zretW (pc := 20) cx hr hlk d_E_corrupt_20 rfl (by rw [eCorrupt, if_neg (fun z => by rw [hb1] at z; cases z.1)] <;> rfl) (by rw [eCorrupt, if_neg (fun z => by rw [hb1] at z; cases z.1)] <;> rfl)
  · refine gj_aload_n (pc := 8) cx d_E_corrupt_8 rfl (x := h) rfl ?_
    refine gj_get (pc := 9) (ci := 1) (C := R_E) (T := T_E) (N := 4) (v := .int (nI fa)) cx hK gj_wP in_E d_E_corrupt_9 0 rfl rfl 3 (by decide) (in_WT wm_62) rfl ?_
    refine gj_aload_n (pc := 12) cx d_E_corrupt_12 rfl (x := h) rfl ?_
    refine gj_get (pc := 13) (ci := 1) (C := R_E) (T := T_E) (N := 4) (v := .int (nI f)) cx hK gj_wP in_E d_E_corrupt_13 0 rfl rfl 1 (by decide) (in_WT wm_60) rfl ?_
    refine gj_icmp_ltN (pc := 16) cx d_E_corrupt_16 (tgt := 21) rfl (by omega) (by omega) (fun hb2 => ?_) (fun hb2 => ?_)
    · obtain ⟨x, hx, rfl, hxc⟩ := eCor_of hn hb1
      refine gj_aload_n (pc := 21) cx d_E_corrupt_21 rfl (x := h) rfl ?_
      refine gj_get (pc := 22) (ci := 1) (C := R_E) (T := T_E) (N := 4) (v := .ref hN) cx hK gj_wP in_E d_E_corrupt_22 0 rfl rfl 2 (by decide) (in_WT wm_61) rfl ?_
      refine gj_iload_n (pc := 25) cx d_E_corrupt_25 rfl (x := nI x) rfl ?_
      refine gj_aald (pc := 26) (i := x) (x := ad x 0) cx hK gj_wP d_E_corrupt_26 1 2 rfl rfl (by omega) (by omega) rfl ?_
      refine gj_callVWv (pc := 27) (As := []) (rest := []) (ws' := oW cI cJ cO h hN ad n f fa (va_up σ x (sCo (σ x) 2))) cx hKn hA (fun sz => c_N_turnFaulty l D cI cJ (ad x) x n f (σ x)   sz) (cwV 0 cx.2.2.2.2 (good_V wm_126 wm_123 wm_124 wm_125 wm_3) rfl rfl rfl (by decide +kernel) ⟨Nat.le_of_ble_eq_true rfl, Nat.le_of_ble_eq_true rfl⟩) (oW_J (by omega) _) 0 0 rfl rfl rfl rfl rfl (Nat.le_of_ble_eq_true rfl) d_E_corrupt_27 ⟨Nat.zero_le _, Nat.zero_le _⟩ ?_
      refine gj_aload_n (pc := 30) cx d_E_corrupt_30 rfl (x := h) rfl ?_
      refine gj_dup (pc := 31) cx d_E_corrupt_31 rfl ?_
      refine gj_get (pc := 32) (ci := 1) (C := R_E) (T := T_E) (N := 4) (v := .int (nI fa)) cx hK gj_wP in_E d_E_corrupt_32 0 rfl rfl 3 (by decide) (in_WT wm_62) rfl ?_
      refine gj_iconst (pc := 35) cx d_E_corrupt_35 (v := nI 1) (by decide) ?_
      refine gj_iaddN (pc := 36) cx d_E_corrupt_36 ?_
      refine gj_put (pc := 37) (ci := 1) (C := R_E) (T := T_E) (N := 4) (ty := .int) (v := .int (nI (fa + 1))) (ws' := oW cI cJ cO h hN ad n f (fa + 1) (va_up σ x (sCo (σ x) 2))) cx hK in_E ty_E ty_E_ok nm_E d_E_corrupt_37 0 rfl rfl 3 (by decide) (in_WT wm_62) rfl (by decide +kernel) rfl rfl (Nat.le_of_ble_eq_true rfl) rfl ?_
      refine gj_iconst (pc := 40) cx d_E_corrupt_40 (v := nI 1) (by decide) ?_
      exact gj_zretW (pc := 41) cx hr hlk d_E_corrupt_41 rfl (by rw [eCorrupt, if_pos ⟨hb1, hb2⟩, xN_nI (by omega)] <;> rfl) (by rw [eCorrupt, if_pos ⟨hb1, hb2⟩, xN_nI (by omega)] <;> rfl)
    · refine gj_iconst (pc := 19) cx d_E_corrupt_19 (v := nI 0) (by decide) ?_
      exact gj_zretW (pc := 20) cx hr hlk d_E_corrupt_20 rfl (by rw [eCorrupt, if_neg (fun z => by have := z.2; omega)] <;> rfl) (by rw [eCorrupt, if_neg (fun z => by have := z.2; omega)] <;> rfl)

set_option maxRecDepth 100000 in
set_option maxHeartbeats 4000000 in
theorem c_E_submit (l : Launch) (D : va_G) (cI cJ cO : ClassId) (h hN : Nat) (ad : Nat → Nat → Nat) (n f fa : Nat) (σ : Nat → NS) (nd : Int32) (py : Int32) (am : Int32) (hn : n ≤ 7) (hs : ∀ x, x < n → nInv n (σ x)) (sz : Nat) : MWi l y_E_submit (wsM y_E_submit b_E_submit 4 (some .int)) { frames := 4, cells := 0, slots := 0, locals := 89 } D vwK (tyo cI cJ cO) (oW cI cJ cO h hN ad n f fa σ) (oW cI cJ cO h hN ad n f fa ((eSubmit n σ nd py am).2)) sz [.ref h, .int nd, .int py, .int am] ((eSubmit n σ nd py am).1) := by
  refine gj_enterW (own := R_E) (by decide) rfl (Nat.le_of_ble_eq_true rfl) rfl rfl (fun p e s m below meth c cx hr hlk hK hsz => ?_)
  have hA : ∀ q, s.heap.size ≤ q → va_A (oW cI cJ cO h hN ad n f fa σ) sz q := fun q h => Or.inr (hsz ▸ h)
  have hKn : va_K D vwK (tyl cI cJ) s := hK.sub [0, 1] rfl
  refine gj_aload_n (pc := 0) cx d_E_submit_0 rfl (x := h) rfl ?_
  refine gj_iload_n (pc := 1) cx d_E_submit_1 rfl (x := nd) rfl ?_
  refine gj_callVRi (pc := 2) (As := [.int nd]) (rest := []) (v := bI (eUp n σ nd)) cx hK (c_E_isUp l D cI cJ cO h hN ad n f fa σ nd (by omega) (hs)) (cwV 1 cx.2.2.2.2 (good_V wm_73 wm_71 wm_72 wm_532 wm_1) rfl rfl rfl (by decide +kernel) ⟨Nat.le_of_ble_eq_true rfl, Nat.le_of_ble_eq_true rfl⟩) gj_wP 0 1 rfl rfl rfl rfl rfl (Nat.le_of_ble_eq_true rfl) d_E_submit_2 ⟨Nat.zero_le _, Nat.zero_le _⟩ ?_
  refine gj_if_eqB (pc := 5) cx d_E_submit_5 (tgt := 33) rfl (fun hb1 => ?_) (fun hb1 => ?_)
  · refine gj_iconst (pc := 33) cx d_E_submit_33 (v := (-1)) (by decide) ?_
    exact gj_iretW (pc := 34) cx hr hlk d_E_submit_34 (by rw [eSubmit, if_neg (fun z => by rw [hb1] at z; cases z.1)] <;> rfl) (by rw [eSubmit, if_neg (fun z => by rw [hb1] at z; cases z.1)] <;> rfl)
  · refine gj_aload_n (pc := 8) cx d_E_submit_8 rfl (x := h) rfl ?_
    refine gj_iload_n (pc := 9) cx d_E_submit_9 rfl (x := py) rfl ?_
    refine gj_callVRi (pc := 10) (As := [.int py]) (rest := []) (v := bI (isN n py)) cx hK (c_E_isNode l D cI cJ cO h hN ad n f fa σ py ) (cwV 1 cx.2.2.2.2 (good_V wm_76 wm_74 wm_75 wm_533 wm_1) rfl rfl rfl (by decide +kernel) ⟨Nat.le_of_ble_eq_true rfl, Nat.le_of_ble_eq_true rfl⟩) gj_wP 0 1 rfl rfl rfl rfl rfl (Nat.le_of_ble_eq_true rfl) d_E_submit_10 ⟨Nat.zero_le _, Nat.zero_le _⟩ ?_
    refine gj_if_eqB (pc := 13) cx d_E_submit_13 (tgt := 33) rfl (fun hb2 => ?_) (fun hb2 => ?_)
    · refine gj_iconst (pc := 33) cx d_E_submit_33 (v := (-1)) (by decide) ?_
      exact gj_iretW (pc := 34) cx hr hlk d_E_submit_34 (by rw [eSubmit, if_neg (fun z => by rw [hb2] at z; cases z.2.1)] <;> rfl) (by rw [eSubmit, if_neg (fun z => by rw [hb2] at z; cases z.2.1)] <;> rfl)
    · refine gj_iload_n (pc := 16) cx d_E_submit_16 rfl (x := py) rfl ?_
      refine gj_iload_n (pc := 17) cx d_E_submit_17 rfl (x := nd) rfl ?_
      refine gj_icmp_eq (pc := 18) cx d_E_submit_18 (tgt := 33) rfl (fun hb3 => ?_) (fun hb3 => ?_)
      · refine gj_iconst (pc := 33) cx d_E_submit_33 (v := (-1)) (by decide) ?_
        exact gj_iretW (pc := 34) cx hr hlk d_E_submit_34 (by rw [eSubmit, if_neg (fun z => z.2.2.1 hb3)] <;> rfl) (by rw [eSubmit, if_neg (fun z => z.2.2.1 hb3)] <;> rfl)
      · refine gj_iload_n (pc := 21) cx d_E_submit_21 rfl (x := am) rfl ?_
        refine gj_iconst (pc := 22) cx d_E_submit_22 (v := nI 1) (by decide) ?_
        refine gj_icmp_lt (pc := 23) cx d_E_submit_23 (tgt := 33) rfl (fun hb4 => ?_) (fun hb4 => ?_)
        · refine gj_iconst (pc := 33) cx d_E_submit_33 (v := (-1)) (by decide) ?_
          exact gj_iretW (pc := 34) cx hr hlk d_E_submit_34 (by rw [eSubmit, if_neg (fun z => z.2.2.2.1 hb4)] <;> rfl) (by rw [eSubmit, if_neg (fun z => z.2.2.2.1 hb4)] <;> rfl)
        · refine gj_iload_n (pc := 26) cx d_E_submit_26 rfl (x := am) rfl ?_
          refine gj_sipush (pc := 27) cx d_E_submit_27 (v := nI 1023) (by decide) ?_
          refine gj_icmp_le (pc := 30) cx d_E_submit_30 (tgt := 35) rfl (fun hb5 => ?_) (fun hb5 => ?_)
          · obtain ⟨x, hx, rfl, hxu⟩ := eUp_of hn hb1
            obtain ⟨y, hy, rfl⟩ := isN_of hn hb2
            obtain ⟨k, hk, rfl⟩ := nI_of2 (M := 1023) (n := 1023) (by decide) (fun z => hb4 (Int32.lt_of_lt_of_le z (by decide))) hb5
            refine gj_aload_n (pc := 35) cx d_E_submit_35 rfl (x := h) rfl ?_
            refine gj_get (pc := 36) (ci := 1) (C := R_E) (T := T_E) (N := 4) (v := .ref hN) cx hK gj_wP in_E d_E_submit_36 0 rfl rfl 2 (by decide) (in_WT wm_61) rfl ?_
            refine gj_iload_n (pc := 39) cx d_E_submit_39 rfl (x := nI x) rfl ?_
            refine gj_aald (pc := 40) (i := x) (x := ad x 0) cx hK gj_wP d_E_submit_40 1 2 rfl rfl (by omega) (by omega) rfl ?_
            refine gj_iload_n (pc := 41) cx d_E_submit_41 rfl (x := nI y) rfl ?_
            refine gj_iload_n (pc := 42) cx d_E_submit_42 rfl (x := nI k) rfl ?_
            refine gj_callVWi (pc := 43) (As := [.int (nI y), .int (nI k)]) (rest := []) (v := (nSubmit (σ x) x n y k).1) (ws' := oW cI cJ cO h hN ad n f fa (va_up σ x ((nSubmit (σ x) x n y k).2))) cx hKn hA (fun sz => c_N_writeSubmission l D cI cJ (ad x) x n f (σ x) y k ((hs x (by omega)).1) (by omega) (by omega) (by omega) (by omega) sz) (cwV 2 cx.2.2.2.2 (good_V wm_84 wm_81 wm_82 wm_83 wm_3) rfl rfl rfl (by decide +kernel) ⟨Nat.le_of_ble_eq_true rfl, Nat.le_of_ble_eq_true rfl⟩) (oW_J (by omega) _) 0 0 rfl rfl rfl rfl rfl (Nat.le_of_ble_eq_true rfl) d_E_submit_43 ⟨Nat.zero_le _, Nat.zero_le _⟩ ?_
            exact gj_iretW (pc := 46) cx hr hlk d_E_submit_46 (by rw [eSubmit, if_pos ⟨hb1, hb2, hb3, hb4, hb5⟩, xN_nI (by omega), xN_nI (by omega), xN_nI (by omega)] <;> rfl) (by rw [eSubmit, if_pos ⟨hb1, hb2, hb3, hb4, hb5⟩, xN_nI (by omega), xN_nI (by omega), xN_nI (by omega)] <;> rfl)
          · refine gj_iconst (pc := 33) cx d_E_submit_33 (v := (-1)) (by decide) ?_
            exact gj_iretW (pc := 34) cx hr hlk d_E_submit_34 (by rw [eSubmit, if_neg (fun z => hb5 z.2.2.2.2)] <;> rfl) (by rw [eSubmit, if_neg (fun z => hb5 z.2.2.2.2)] <;> rfl)

set_option maxRecDepth 100000 in
set_option maxHeartbeats 4000000 in
theorem c_E_forge (l : Launch) (D : va_G) (cI cJ cO : ClassId) (h hN : Nat) (ad : Nat → Nat → Nat) (n f fa : Nat) (σ : Nat → NS) (fd : Int32) (td : Int32) (hd : Int32) (pp : Int64) (hn : n ≤ 7) (hs : ∀ x, x < n → nInv n (σ x)) (hf : f ≤ 7) (sz : Nat) : MWi l y_E_forge (wsM y_E_forge b_E_forge 7 (some .int)) { frames := 6, cells := 0, slots := 0, locals := 141 } D vwK (tyo cI cJ cO) (oW cI cJ cO h hN ad n f fa σ) (oW cI cJ cO h hN ad n f fa ((eForge n f σ fd td hd pp).2)) sz [.ref h, .int fd, .int td, .int hd, .long pp] ((eForge n f σ fd td hd pp).1) := by
  refine gj_enterW (own := R_E) (by decide) rfl (Nat.le_of_ble_eq_true rfl) rfl rfl (fun p e s m below meth c cx hr hlk hK hsz => ?_)
  have hA : ∀ q, s.heap.size ≤ q → va_A (oW cI cJ cO h hN ad n f fa σ) sz q := fun q h => Or.inr (hsz ▸ h)
  have hKn : va_K D vwK (tyl cI cJ) s := hK.sub [0, 1] rfl
  refine gj_aload_n (pc := 0) cx d_E_forge_0 rfl (x := h) rfl ?_
  refine gj_iload_n (pc := 1) cx d_E_forge_1 rfl (x := fd) rfl ?_
  refine gj_callVRi (pc := 2) (As := [.int fd]) (rest := []) (v := eState n σ fd) cx hK (c_E_state l D cI cJ cO h hN ad n f fa σ fd (by omega) (hs)) (cwV 1 cx.2.2.2.2 (good_V wm_134 wm_131 wm_132 wm_133 wm_1) rfl rfl rfl (by decide +kernel) ⟨Nat.le_of_ble_eq_true rfl, Nat.le_of_ble_eq_true rfl⟩) gj_wP 0 1 rfl rfl rfl rfl rfl (Nat.le_of_ble_eq_true rfl) d_E_forge_2 ⟨Nat.zero_le _, Nat.zero_le _⟩ ?_
  refine gj_iconst (pc := 5) cx d_E_forge_5 (v := nI 2) (by decide) ?_
  refine gj_icmp_ne (pc := 6) cx d_E_forge_6 (tgt := 17) rfl (fun hb1 => ?_) (fun hb1 => ?_)
  · refine gj_iconst (pc := 17) cx d_E_forge_17 (v := (-1)) (by decide) ?_
    exact gj_iretW (pc := 18) cx hr hlk d_E_forge_18 (by rw [eForge, if_neg (fun z => hb1 z.1)] <;> rfl) (by rw [eForge, if_neg (fun z => hb1 z.1)] <;> rfl)
  · refine gj_aload_n (pc := 9) cx d_E_forge_9 rfl (x := h) rfl ?_
    refine gj_iload_n (pc := 10) cx d_E_forge_10 rfl (x := td) rfl ?_
    refine gj_callVRi (pc := 11) (As := [.int td]) (rest := []) (v := bI (eUp n σ td)) cx hK (c_E_isUp l D cI cJ cO h hN ad n f fa σ td (by omega) (hs)) (cwV 1 cx.2.2.2.2 (good_V wm_73 wm_71 wm_72 wm_532 wm_1) rfl rfl rfl (by decide +kernel) ⟨Nat.le_of_ble_eq_true rfl, Nat.le_of_ble_eq_true rfl⟩) gj_wP 0 1 rfl rfl rfl rfl rfl (Nat.le_of_ble_eq_true rfl) d_E_forge_11 ⟨Nat.zero_le _, Nat.zero_le _⟩ ?_
    refine gj_if_neB (pc := 14) cx d_E_forge_14 (tgt := 19) rfl (fun hb2 => ?_) (fun hb2 => ?_)
    · refine gj_aload_n (pc := 19) cx d_E_forge_19 rfl (x := h) rfl ?_
      refine gj_iload_n (pc := 20) cx d_E_forge_20 rfl (x := hd) rfl ?_
      refine gj_bipush (pc := 21) cx d_E_forge_21 (v := nI 7) (by decide) ?_
      refine gj_iand (pc := 23) cx d_E_forge_23 ?_
      refine gj_iload_n (pc := 24) cx d_E_forge_24 rfl (x := hd) rfl ?_
      refine gj_iconst (pc := 25) cx d_E_forge_25 (v := nI 3) (by decide) ?_
      refine gj_ishr (pc := 26) cx d_E_forge_26 ?_
      refine gj_bipush (pc := 27) cx d_E_forge_27 (v := nI 7) (by decide) ?_
      refine gj_iand (pc := 29) cx d_E_forge_29 ?_
      refine gj_iload_n (pc := 30) cx d_E_forge_30 rfl (x := hd) rfl ?_
      refine gj_bipush (pc := 31) cx d_E_forge_31 (v := nI 6) (by decide) ?_
      refine gj_ishr (pc := 33) cx d_E_forge_33 ?_
      refine gj_callVRi (pc := 34) (As := [.int (hd &&& (nI 7)), .int ((hd >>> ((nI 3) &&& 31)) &&& (nI 7)), .int (hd >>> ((nI 6) &&& 31))]) (rest := []) (v := tpI (tpc n (hd &&& (nI 7)) ((hd >>> ((nI 3) &&& 31)) &&& (nI 7)) (hd >>> ((nI 6) &&& 31)))) cx hK (c_E_topicOf l D cI cJ cO h hN ad n f fa σ (hd &&& (nI 7)) ((hd >>> ((nI 3) &&& 31)) &&& (nI 7)) (hd >>> ((nI 6) &&& 31)) (by omega)) (cwV 3 cx.2.2.2.2 (good_V wm_137 wm_135 wm_136 wm_539 wm_1) rfl rfl rfl (by decide +kernel) ⟨Nat.le_of_ble_eq_true rfl, Nat.le_of_ble_eq_true rfl⟩) gj_wP 0 1 rfl rfl rfl rfl rfl (Nat.le_of_ble_eq_true rfl) d_E_forge_34 ⟨Nat.zero_le _, Nat.zero_le _⟩ ?_
      rcases hT : tpc n (hd &&& nI 7) ((hd >>> (nI 3 &&& 31)) &&& nI 7) (hd >>> (nI 6 &&& 31)) with _ | t
      · refine gj_toi (y := (-1)) rfl ?_
        refine gj_istore (pc := 37) cx d_E_forge_37 (lo' := [(6, .int (-1)), (0, .ref h), (1, .int fd), (2, .int td), (3, .int hd), (4, .long pp)]) (by decide) rfl ?_
        refine gj_iload (pc := 39) cx d_E_forge_39 (x := (-1)) rfl ?_
        refine gj_iconst (pc := 41) cx d_E_forge_41 (v := (-1)) (by decide) ?_
        refine gj_icmp_ne (pc := 42) cx d_E_forge_42 (tgt := 50) rfl (fun hb3 => absurd hb3 (fun z => z rfl)) (fun hb3 => ?_)
        refine gj_bipush (pc := 45) cx d_E_forge_45 (v := (-3)) (by decide) ?_
        refine gj_goto (pc := 47) cx d_E_forge_47 (tgt := 64) rfl ?_
        exact gj_iretW (pc := 64) cx hr hlk d_E_forge_64 (by rw [eForge, if_pos ⟨hb1, hb2⟩, hT] <;> rfl) (by rw [eForge, if_pos ⟨hb1, hb2⟩, hT] <;> rfl)
      · refine gj_toi (y := nI t) rfl ?_
        have htt := tpc_lt hn hT
        refine gj_istore (pc := 37) cx d_E_forge_37 (lo' := [(6, .int (nI t)), (0, .ref h), (1, .int fd), (2, .int td), (3, .int hd), (4, .long pp)]) (by decide) rfl ?_
        refine gj_iload (pc := 39) cx d_E_forge_39 (x := nI t) rfl ?_
        refine gj_iconst (pc := 41) cx d_E_forge_41 (v := (-1)) (by decide) ?_
        refine gj_icmp_ne (pc := 42) cx d_E_forge_42 (tgt := 50) rfl (fun hb4 => ?_) (fun hb4 => absurd hb4 (nI_m1 (by omega)))
        obtain ⟨y, hy, rfl, hys⟩ := eState_of (c := 2) hn (by omega) (fun y hy => (hs y hy).1.1) hb1
        obtain ⟨x, hx, rfl, hxu⟩ := eUp_of hn hb2
        refine gj_aload_n (pc := 50) cx d_E_forge_50 rfl (x := h) rfl ?_
        refine gj_get (pc := 51) (ci := 1) (C := R_E) (T := T_E) (N := 4) (v := .ref hN) cx hK gj_wP in_E d_E_forge_51 0 rfl rfl 2 (by decide) (in_WT wm_61) rfl ?_
        refine gj_iload_n (pc := 54) cx d_E_forge_54 rfl (x := nI x) rfl ?_
        refine gj_aald (pc := 55) (i := x) (x := ad x 0) cx hK gj_wP d_E_forge_55 1 2 rfl rfl (by omega) (by omega) rfl ?_
        refine gj_iload (pc := 56) cx d_E_forge_56 (x := nI t) rfl ?_
        refine gj_iload_n (pc := 58) cx d_E_forge_58 rfl (x := nI y) rfl ?_
        refine gj_lload (pc := 59) cx d_E_forge_59 (x := pp) rfl ?_
        refine gj_callVWi (pc := 61) (As := [.int (nI t), .int (nI y), .long pp]) (rest := []) (v := (nRecv (σ x) n f t y pp).1) (ws' := oW cI cJ cO h hN ad n f fa (va_up σ x ((nRecv (σ x) n f t y pp).2))) cx hKn hA (fun sz => c_N_receive l D cI cJ (ad x) x n f (σ x) t y pp ((hs x (by omega)).1) ((hs x (by omega)).2.1) ((hs x (by omega)).2.2) (by omega) (by omega) (by omega) (by omega) sz) (cwV 3 cx.2.2.2.2 (good_V wm_142 wm_139 wm_140 wm_141 wm_3) rfl rfl rfl (by decide +kernel) ⟨Nat.le_of_ble_eq_true rfl, Nat.le_of_ble_eq_true rfl⟩) (oW_J (by omega) _) 0 0 rfl rfl rfl rfl rfl (Nat.le_of_ble_eq_true rfl) d_E_forge_61 ⟨Nat.zero_le _, Nat.zero_le _⟩ ?_
        exact gj_iretW (pc := 64) cx hr hlk d_E_forge_64 (by rw [eForge, if_pos ⟨hb1, hb2⟩, hT, xN_nI (by omega), xN_nI (by omega)] <;> rfl) (by rw [eForge, if_pos ⟨hb1, hb2⟩, hT, xN_nI (by omega), xN_nI (by omega)] <;> rfl)
    · refine gj_iconst (pc := 17) cx d_E_forge_17 (v := (-1)) (by decide) ?_
      exact gj_iretW (pc := 18) cx hr hlk d_E_forge_18 (by rw [eForge, if_neg (fun z => by rw [hb2] at z; cases z.2)] <;> rfl) (by rw [eForge, if_neg (fun z => by rw [hb2] at z; cases z.2)] <;> rfl)

set_option maxRecDepth 100000 in
set_option maxHeartbeats 4000000 in
theorem c_E_carry (l : Launch) (D : va_G) (cI cJ cO : ClassId) (h hN : Nat) (ad : Nat → Nat → Nat) (n f fa : Nat) (σ : Nat → NS) (fd : Int32) (td : Int32) (kd : Int32) (bd : Int32) (qd : Int32) (hn : n ≤ 7) (hs : ∀ x, x < n → nInv n (σ x)) (hf : f ≤ 7) (sz : Nat) : MWi l y_E_carry (wsM y_E_carry b_E_carry 7 (some .int)) { frames := 6, cells := 0, slots := 0, locals := 141 } D vwK (tyo cI cJ cO) (oW cI cJ cO h hN ad n f fa σ) (oW cI cJ cO h hN ad n f fa ((eCarry n f σ fd td kd bd qd).2)) sz [.ref h, .int fd, .int td, .int kd, .int bd, .int qd] ((eCarry n f σ fd td kd bd qd).1) := by
  refine gj_enterW (own := R_E) (by decide) rfl (Nat.le_of_ble_eq_true rfl) rfl rfl (fun p e s m below meth c cx hr hlk hK hsz => ?_)
  have hA : ∀ q, s.heap.size ≤ q → va_A (oW cI cJ cO h hN ad n f fa σ) sz q := fun q h => Or.inr (hsz ▸ h)
  have hKn : va_K D vwK (tyl cI cJ) s := hK.sub [0, 1] rfl
  refine gj_aload_n (pc := 0) cx d_E_carry_0 rfl (x := h) rfl ?_
  refine gj_iload_n (pc := 1) cx d_E_carry_1 rfl (x := fd) rfl ?_
  refine gj_callVRi (pc := 2) (As := [.int fd]) (rest := []) (v := bI (eCor n σ fd)) cx hK (c_E_isCorrect l D cI cJ cO h hN ad n f fa σ fd (by omega) (hs)) (cwV 1 cx.2.2.2.2 (good_V wm_122 wm_120 wm_121 wm_538 wm_1) rfl rfl rfl (by decide +kernel) ⟨Nat.le_of_ble_eq_true rfl, Nat.le_of_ble_eq_true rfl⟩) gj_wP 0 1 rfl rfl rfl rfl rfl (Nat.le_of_ble_eq_true rfl) d_E_carry_2 ⟨Nat.zero_le _, Nat.zero_le _⟩ ?_
  refine gj_if_eqB (pc := 5) cx d_E_carry_5 (tgt := 16) rfl (fun hb1 => ?_) (fun hb1 => ?_)
  · refine gj_iconst (pc := 16) cx d_E_carry_16 (v := (-1)) (by decide) ?_
    exact gj_iretW (pc := 17) cx hr hlk d_E_carry_17 (by rw [eCarry, if_neg (fun z => by rw [hb1] at z; cases z.1)] <;> rfl) (by rw [eCarry, if_neg (fun z => by rw [hb1] at z; cases z.1)] <;> rfl)
  · refine gj_aload_n (pc := 8) cx d_E_carry_8 rfl (x := h) rfl ?_
    refine gj_iload_n (pc := 9) cx d_E_carry_9 rfl (x := td) rfl ?_
    refine gj_callVRi (pc := 10) (As := [.int td]) (rest := []) (v := bI (eUp n σ td)) cx hK (c_E_isUp l D cI cJ cO h hN ad n f fa σ td (by omega) (hs)) (cwV 1 cx.2.2.2.2 (good_V wm_73 wm_71 wm_72 wm_532 wm_1) rfl rfl rfl (by decide +kernel) ⟨Nat.le_of_ble_eq_true rfl, Nat.le_of_ble_eq_true rfl⟩) gj_wP 0 1 rfl rfl rfl rfl rfl (Nat.le_of_ble_eq_true rfl) d_E_carry_10 ⟨Nat.zero_le _, Nat.zero_le _⟩ ?_
    refine gj_if_neB (pc := 13) cx d_E_carry_13 (tgt := 18) rfl (fun hb2 => ?_) (fun hb2 => ?_)
    · refine gj_aload_n (pc := 18) cx d_E_carry_18 rfl (x := h) rfl ?_
      refine gj_iload_n (pc := 19) cx d_E_carry_19 rfl (x := kd) rfl ?_
      refine gj_iload (pc := 20) cx d_E_carry_20 (x := bd) rfl ?_
      refine gj_iload (pc := 22) cx d_E_carry_22 (x := qd) rfl ?_
      refine gj_callVRi (pc := 24) (As := [.int kd, .int bd, .int qd]) (rest := []) (v := tpI (tpc n kd bd qd)) cx hK (c_E_topicOf l D cI cJ cO h hN ad n f fa σ kd bd qd (by omega)) (cwV 3 cx.2.2.2.2 (good_V wm_137 wm_135 wm_136 wm_539 wm_1) rfl rfl rfl (by decide +kernel) ⟨Nat.le_of_ble_eq_true rfl, Nat.le_of_ble_eq_true rfl⟩) gj_wP 0 1 rfl rfl rfl rfl rfl (Nat.le_of_ble_eq_true rfl) d_E_carry_24 ⟨Nat.zero_le _, Nat.zero_le _⟩ ?_
      rcases hT : tpc n kd bd qd with _ | t
      · refine gj_toi (y := (-1)) rfl ?_
        refine gj_istore (pc := 27) cx d_E_carry_27 (lo' := [(6, .int (-1)), (0, .ref h), (1, .int fd), (2, .int td), (3, .int kd), (4, .int bd), (5, .int qd)]) (by decide) rfl ?_
        refine gj_iload (pc := 29) cx d_E_carry_29 (x := (-1)) rfl ?_
        refine gj_iconst (pc := 31) cx d_E_carry_31 (v := (-1)) (by decide) ?_
        refine gj_icmp_eq (pc := 32) cx d_E_carry_32 (tgt := 53) rfl (fun hb3 => ?_) (fun hb3 => absurd hb3 (fun z => z rfl))
        refine gj_bipush (pc := 53) cx d_E_carry_53 (v := (-2)) (by decide) ?_
        exact gj_iretW (pc := 55) cx hr hlk d_E_carry_55 (by rw [eCarry, if_pos ⟨hb1, hb2⟩, hT] <;> rfl) (by rw [eCarry, if_pos ⟨hb1, hb2⟩, hT] <;> rfl)
      · refine gj_toi (y := nI t) rfl ?_
        have htt := tpc_lt hn hT
        refine gj_istore (pc := 27) cx d_E_carry_27 (lo' := [(6, .int (nI t)), (0, .ref h), (1, .int fd), (2, .int td), (3, .int kd), (4, .int bd), (5, .int qd)]) (by decide) rfl ?_
        refine gj_iload (pc := 29) cx d_E_carry_29 (x := nI t) rfl ?_
        refine gj_iconst (pc := 31) cx d_E_carry_31 (v := (-1)) (by decide) ?_
        refine gj_icmp_eq (pc := 32) cx d_E_carry_32 (tgt := 53) rfl (fun hb4 => absurd hb4 (nI_m1 (by omega))) (fun hb4 => ?_)
        obtain ⟨y, hy, rfl, hyc⟩ := eCor_of hn hb1
        obtain ⟨x, hx, rfl, hxu⟩ := eUp_of hn hb2
        refine gj_aload_n (pc := 35) cx d_E_carry_35 rfl (x := h) rfl ?_
        refine gj_get (pc := 36) (ci := 1) (C := R_E) (T := T_E) (N := 4) (v := .ref hN) cx hK gj_wP in_E d_E_carry_36 0 rfl rfl 2 (by decide) (in_WT wm_61) rfl ?_
        refine gj_iload_n (pc := 39) cx d_E_carry_39 rfl (x := nI y) rfl ?_
        refine gj_aald (pc := 40) (i := y) (x := ad y 0) cx hK gj_wP d_E_carry_40 1 2 rfl rfl (by omega) (by omega) rfl ?_
        refine gj_iload (pc := 41) cx d_E_carry_41 (x := nI t) rfl ?_
        refine gj_callVRl (pc := 43) (As := [.int (nI t)]) (rest := []) (v := nSa (σ y) t) cx hKn (c_N_said l D cI cJ (ad y) y n f (σ y) t (by omega)) (cwV 1 cx.2.2.2.2 (good_V wm_218 wm_215 wm_216 wm_217 wm_3) rfl rfl rfl (by decide +kernel) ⟨Nat.le_of_ble_eq_true rfl, Nat.le_of_ble_eq_true rfl⟩) (fun H locs hB => oW_P (by omega) (gj_wP H locs hB)) 0 0 rfl rfl rfl rfl rfl (Nat.le_of_ble_eq_true rfl) d_E_carry_43 ⟨Nat.zero_le _, Nat.zero_le _⟩ ?_
        refine gj_ldc2 (pc := 46) cx d_E_carry_46 (v := (-1)) (in_WT wm_219) ?_
        refine gj_lcmp_ne (pc := 49) cx d_E_carry_49 d_E_carry_50 (tgt := 56) rfl (fun hb5 => ?_) (fun hb5 => ?_)
        · refine gj_aload_n (pc := 56) cx d_E_carry_56 rfl (x := h) rfl ?_
          refine gj_get (pc := 57) (ci := 1) (C := R_E) (T := T_E) (N := 4) (v := .ref hN) cx hK gj_wP in_E d_E_carry_57 0 rfl rfl 2 (by decide) (in_WT wm_61) rfl ?_
          refine gj_iload_n (pc := 60) cx d_E_carry_60 rfl (x := nI x) rfl ?_
          refine gj_aald (pc := 61) (i := x) (x := ad x 0) cx hK gj_wP d_E_carry_61 1 2 rfl rfl (by omega) (by omega) rfl ?_
          refine gj_iload (pc := 62) cx d_E_carry_62 (x := nI t) rfl ?_
          refine gj_iload_n (pc := 64) cx d_E_carry_64 rfl (x := nI y) rfl ?_
          refine gj_aload_n (pc := 65) cx d_E_carry_65 rfl (x := h) rfl ?_
          refine gj_get (pc := 66) (ci := 1) (C := R_E) (T := T_E) (N := 4) (v := .ref hN) cx hK gj_wP in_E d_E_carry_66 0 rfl rfl 2 (by decide) (in_WT wm_61) rfl ?_
          refine gj_iload_n (pc := 69) cx d_E_carry_69 rfl (x := nI y) rfl ?_
          refine gj_aald (pc := 70) (i := y) (x := ad y 0) cx hK gj_wP d_E_carry_70 1 2 rfl rfl (by omega) (by omega) rfl ?_
          refine gj_iload (pc := 71) cx d_E_carry_71 (x := nI t) rfl ?_
          refine gj_callVRl (pc := 73) (As := [.int (nI t)]) (rest := [.int (nI y), .int (nI t), .ref (ad x 0)]) (v := nSa (σ y) t) cx hKn (c_N_said l D cI cJ (ad y) y n f (σ y) t (by omega)) (cwV 1 cx.2.2.2.2 (good_V wm_218 wm_215 wm_216 wm_217 wm_3) rfl rfl rfl (by decide +kernel) ⟨Nat.le_of_ble_eq_true rfl, Nat.le_of_ble_eq_true rfl⟩) (fun H locs hB => oW_P (by omega) (gj_wP H locs hB)) 0 0 rfl rfl rfl rfl rfl (Nat.le_of_ble_eq_true rfl) d_E_carry_73 ⟨Nat.zero_le _, Nat.zero_le _⟩ ?_
          refine gj_callVWi (pc := 76) (As := [.int (nI t), .int (nI y), .long (nSa (σ y) t)]) (rest := []) (v := (nRecv (σ x) n f t y (nSa (σ y) t)).1) (ws' := oW cI cJ cO h hN ad n f fa (va_up σ x ((nRecv (σ x) n f t y (nSa (σ y) t)).2))) cx hKn hA (fun sz => c_N_receive l D cI cJ (ad x) x n f (σ x) t y (nSa (σ y) t) ((hs x (by omega)).1) ((hs x (by omega)).2.1) ((hs x (by omega)).2.2) (by omega) (by omega) (by omega) (by omega) sz) (cwV 3 cx.2.2.2.2 (good_V wm_142 wm_139 wm_140 wm_141 wm_3) rfl rfl rfl (by decide +kernel) ⟨Nat.le_of_ble_eq_true rfl, Nat.le_of_ble_eq_true rfl⟩) (oW_J (by omega) _) 0 0 rfl rfl rfl rfl rfl (Nat.le_of_ble_eq_true rfl) d_E_carry_76 ⟨Nat.zero_le _, Nat.zero_le _⟩ ?_
          exact gj_iretW (pc := 79) cx hr hlk d_E_carry_79 (by rw [eCarry, if_pos ⟨hb1, hb2⟩, hT, xN_nI (by omega), xN_nI (by omega)]; simp only [if_neg hb5] <;> rfl) (by rw [eCarry, if_pos ⟨hb1, hb2⟩, hT, xN_nI (by omega), xN_nI (by omega)]; simp only [if_neg hb5] <;> rfl)
        · refine gj_bipush (pc := 53) cx d_E_carry_53 (v := (-2)) (by decide) ?_
          exact gj_iretW (pc := 55) cx hr hlk d_E_carry_55 (by rw [eCarry, if_pos ⟨hb1, hb2⟩, hT, xN_nI (by omega)]; simp only [hb5, if_true] <;> rfl) (by rw [eCarry, if_pos ⟨hb1, hb2⟩, hT, xN_nI (by omega)]; simp only [hb5, if_true] <;> rfl)
    · refine gj_iconst (pc := 16) cx d_E_carry_16 (v := (-1)) (by decide) ?_
      exact gj_iretW (pc := 17) cx hr hlk d_E_carry_17 (by rw [eCarry, if_neg (fun z => by rw [hb2] at z; cases z.2)] <;> rfl) (by rw [eCarry, if_neg (fun z => by rw [hb2] at z; cases z.2)] <;> rfl)

set_option maxRecDepth 100000 in
set_option maxHeartbeats 4000000 in
theorem c_E_pump (l : Launch) (D : va_G) (cI cJ cO : ClassId) (h hN : Nat) (ad : Nat → Nat → Nat) (n f fa : Nat) (σ : Nat → NS) (kd : Int32) (hn : n ≤ 7) (hs : ∀ x, x < n → nInv n (σ x)) (hf : f ≤ 7) (sz : Nat) : MWi l y_E_pump (wsM y_E_pump b_E_pump 6 (some .int)) { frames := 6, cells := 0, slots := 0, locals := 141 } D vwK (tyo cI cJ cO) (oW cI cJ cO h hN ad n f fa σ) (oW cI cJ cO h hN ad n f fa ((ePumpC n f σ kd).2)) sz [.ref h, .int kd] ((ePumpC n f σ kd).1) := by
  refine gj_enterW (own := R_E) (by decide) rfl (Nat.le_of_ble_eq_true rfl) rfl rfl (fun p e s m below meth c cx hr hlk hK hsz => ?_)
  have hA : ∀ q, s.heap.size ≤ q → va_A (oW cI cJ cO h hN ad n f fa σ) sz q := fun q h => Or.inr (hsz ▸ h)
  have hKn : va_K D vwK (tyl cI cJ) s := hK.sub [0, 1] rfl
  refine gj_iload_n (pc := 0) cx d_E_pump_0 rfl (x := kd) rfl ?_
  refine gj_iconst (pc := 1) cx d_E_pump_1 (v := nI 1) (by decide) ?_
  refine gj_icmp_lt (pc := 2) cx d_E_pump_2 (tgt := 11) rfl (fun hb1 => ?_) (fun hb1 => ?_)
  · refine gj_iconst (pc := 11) cx d_E_pump_11 (v := (-1)) (by decide) ?_
    exact gj_iretW (pc := 12) cx hr hlk d_E_pump_12 (by rw [ePumpC, if_neg (fun z => z.1 hb1)] <;> rfl) (by rw [ePumpC, if_neg (fun z => z.1 hb1)] <;> rfl)
  · refine gj_iload_n (pc := 5) cx d_E_pump_5 rfl (x := kd) rfl ?_
    refine gj_bipush (pc := 6) cx d_E_pump_6 (v := nI 8) (by decide) ?_
    refine gj_icmp_le (pc := 8) cx d_E_pump_8 (tgt := 13) rfl (fun hb2 => ?_) (fun hb2 => ?_)
    · obtain ⟨k, hk, rfl⟩ := nI_of2 (M := 8) (n := 8) (by decide) (fun z => hb1 (Int32.lt_of_lt_of_le z (by decide))) hb2
      rw [show ePumpC n f σ (nI k) = (nI (ePump n f k 0 σ).1, (ePump n f k 0 σ).2) by rw [ePumpC, if_pos ⟨hb1, hb2⟩, xN_nI (by omega)]]
      refine gj_iconst (pc := 13) cx d_E_pump_13 (v := nI 0) (by decide) ?_
      refine gj_istore_n (pc := 14) cx d_E_pump_14 rfl (lo' := [(2, .int (nI 0)), (0, .ref h), (1, .int (nI k))]) (by decide) rfl ?_
      refine gj_pick (lo' := [(0, .ref h), (1, .int (nI k)), (2, .int (nI 0))]) [1, 2, 0] rfl ?_
      refine gj_forS (G := Gj p l e _ s m _ below meth c _ _ _ _ _) (σ := Nat → NS) (fun i τ => ePump n f (k - i) i τ = ePump n f k 0 σ ∧ ∀ x, x < n → nInv n (τ x)) k 15 (fun i _ => [(0, .ref h), (1, .int (nI k)), (2, .int (nI i))]) (fun _ τ => oW cI cJ cO h hN ad n f fa τ) (fun i hi ih τ hq => ?_) 0 (by omega) σ ⟨rfl, hs⟩
      obtain ⟨hE, hst⟩ := hq
      refine gj_iload_n (pc := 15) cx d_E_pump_15 rfl (x := nI i) rfl ?_
      refine gj_iload_n (pc := 16) cx d_E_pump_16 rfl (x := nI k) rfl ?_
      refine gj_icmp_geN (pc := 17) cx d_E_pump_17 (tgt := 82) rfl (by omega) (by omega) (fun hb3 => ?_) (fun hb3 => ?_)
      · refine gj_iload_n (pc := 82) cx d_E_pump_82 rfl (x := nI k) rfl ?_
        exact gj_iretW (pc := 83) cx hr hlk d_E_pump_83 (by rw [← hE, show i = k from (by omega), Nat.sub_self] <;> rfl) (by rw [← hE, show i = k from (by omega), Nat.sub_self] <;> rfl)
      · refine gj_aload_n (pc := 20) cx d_E_pump_20 rfl (x := h) rfl ?_
        refine gj_callVRi (pc := 21) (As := []) (rest := []) (v := if eFst n τ = 6909 then -1 else nI (eFst n τ)) cx hK (c_E_firstPending l D cI cJ cO h hN ad n f fa τ  (by omega) (hst)) (cwV 0 cx.2.2.2.2 (good_V wm_226 wm_224 wm_225 wm_552 wm_1) rfl rfl rfl (by decide +kernel) ⟨Nat.le_of_ble_eq_true rfl, Nat.le_of_ble_eq_true rfl⟩) gj_wP 0 1 rfl rfl rfl rfl rfl (Nat.le_of_ble_eq_true rfl) d_E_pump_21 ⟨Nat.zero_le _, Nat.zero_le _⟩ ?_
        by_cases hL : eFst n τ = 6909
        · refine gj_toi (y := (-1)) (if_pos hL) ?_
          refine gj_istore_n (pc := 24) cx d_E_pump_24 rfl (lo' := [(3, .int (-1)), (0, .ref h), (1, .int (nI k)), (2, .int (nI i))]) (by decide) rfl ?_
          refine gj_iload_n (pc := 25) cx d_E_pump_25 rfl (x := (-1)) rfl ?_
          refine gj_iconst (pc := 26) cx d_E_pump_26 (v := (-1)) (by decide) ?_
          refine gj_icmp_ne (pc := 27) cx d_E_pump_27 (tgt := 32) rfl (fun hb4 => absurd hb4 (fun z => z rfl)) (fun hb4 => ?_)
          refine gj_iload_n (pc := 30) cx d_E_pump_30 rfl (x := nI i) rfl ?_
          exact gj_iretW (pc := 31) cx hr hlk d_E_pump_31 (by rw [← hE, ePump_end hL] <;> rfl) (by rw [← hE, ePump_end hL] <;> rfl)
        · refine gj_toi (y := nI (eFst n τ)) (if_neg hL) ?_
          obtain ⟨hF1, hF2, hF3⟩ := eFst_lt hL
          refine gj_istore_n (pc := 24) cx d_E_pump_24 rfl (lo' := [(3, .int (nI (eFst n τ))), (0, .ref h), (1, .int (nI k)), (2, .int (nI i))]) (by decide) rfl ?_
          refine gj_iload_n (pc := 25) cx d_E_pump_25 rfl (x := nI (eFst n τ)) rfl ?_
          refine gj_iconst (pc := 26) cx d_E_pump_26 (v := (-1)) (by decide) ?_
          refine gj_icmp_ne (pc := 27) cx d_E_pump_27 (tgt := 32) rfl (fun hb5 => ?_) (fun hb5 => absurd hb5 (nI_m1 (by omega)))
          refine gj_iload_n (pc := 32) cx d_E_pump_32 rfl (x := nI (eFst n τ)) rfl ?_
          refine gj_bipush (pc := 33) cx d_E_pump_33 (v := nI 49) (by decide) ?_
          refine gj_idivN (pc := 35) cx d_E_pump_35 (by omega) (by omega) (by omega) ?_
          refine gj_istore (pc := 36) cx d_E_pump_36 (lo' := [(4, .int (nI ((eFst n τ) / 49))), (3, .int (nI (eFst n τ))), (0, .ref h), (1, .int (nI k)), (2, .int (nI i))]) (by decide) rfl ?_
          refine gj_iload_n (pc := 38) cx d_E_pump_38 rfl (x := nI (eFst n τ)) rfl ?_
          refine gj_bipush (pc := 39) cx d_E_pump_39 (v := nI 7) (by decide) ?_
          refine gj_idivN (pc := 41) cx d_E_pump_41 (by omega) (by omega) (by omega) ?_
          refine gj_bipush (pc := 42) cx d_E_pump_42 (v := nI 7) (by decide) ?_
          refine gj_iremN (pc := 44) cx d_E_pump_44 (by omega) (by omega) (by omega) ?_
          refine gj_istore (pc := 45) cx d_E_pump_45 (lo' := [(5, .int (nI (((eFst n τ) / 7) % 7))), (4, .int (nI ((eFst n τ) / 49))), (3, .int (nI (eFst n τ))), (0, .ref h), (1, .int (nI k)), (2, .int (nI i))]) (by decide) rfl ?_
          refine gj_aload_n (pc := 47) cx d_E_pump_47 rfl (x := h) rfl ?_
          refine gj_get (pc := 48) (ci := 1) (C := R_E) (T := T_E) (N := 4) (v := .ref hN) cx hK gj_wP in_E d_E_pump_48 0 rfl rfl 2 (by decide) (in_WT wm_61) rfl ?_
          refine gj_iload_n (pc := 51) cx d_E_pump_51 rfl (x := nI (eFst n τ)) rfl ?_
          refine gj_bipush (pc := 52) cx d_E_pump_52 (v := nI 7) (by decide) ?_
          refine gj_iremN (pc := 54) cx d_E_pump_54 (by omega) (by omega) (by omega) ?_
          refine gj_aald (pc := 55) (i := (eFst n τ) % 7) (x := ad ((eFst n τ) % 7) 0) cx hK gj_wP d_E_pump_55 1 2 rfl rfl (by omega) (by omega) rfl ?_
          refine gj_iload (pc := 56) cx d_E_pump_56 (x := nI ((eFst n τ) / 49)) rfl ?_
          refine gj_iload (pc := 58) cx d_E_pump_58 (x := nI (((eFst n τ) / 7) % 7)) rfl ?_
          refine gj_aload_n (pc := 60) cx d_E_pump_60 rfl (x := h) rfl ?_
          refine gj_get (pc := 61) (ci := 1) (C := R_E) (T := T_E) (N := 4) (v := .ref hN) cx hK gj_wP in_E d_E_pump_61 0 rfl rfl 2 (by decide) (in_WT wm_61) rfl ?_
          refine gj_iload (pc := 64) cx d_E_pump_64 (x := nI (((eFst n τ) / 7) % 7)) rfl ?_
          refine gj_aald (pc := 66) (i := ((eFst n τ) / 7) % 7) (x := ad (((eFst n τ) / 7) % 7) 0) cx hK gj_wP d_E_pump_66 1 2 rfl rfl (by omega) (by omega) rfl ?_
          refine gj_iload (pc := 67) cx d_E_pump_67 (x := nI ((eFst n τ) / 49)) rfl ?_
          refine gj_callVRl (pc := 69) (As := [.int (nI ((eFst n τ) / 49))]) (rest := [.int (nI (((eFst n τ) / 7) % 7)), .int (nI ((eFst n τ) / 49)), .ref (ad ((eFst n τ) % 7) 0)]) (v := nSa (τ (((eFst n τ) / 7) % 7)) ((eFst n τ) / 49)) cx hKn (c_N_said l D cI cJ (ad (((eFst n τ) / 7) % 7)) (((eFst n τ) / 7) % 7) n f (τ (((eFst n τ) / 7) % 7)) ((eFst n τ) / 49) (by omega)) (cwV 1 cx.2.2.2.2 (good_V wm_218 wm_215 wm_216 wm_217 wm_3) rfl rfl rfl (by decide +kernel) ⟨Nat.le_of_ble_eq_true rfl, Nat.le_of_ble_eq_true rfl⟩) (fun H locs hB => oW_P (by omega) (gj_wP H locs hB)) 0 0 rfl rfl rfl rfl rfl (Nat.le_of_ble_eq_true rfl) d_E_pump_69 ⟨Nat.zero_le _, Nat.zero_le _⟩ ?_
          refine gj_callVWi (pc := 72) (As := [.int (nI ((eFst n τ) / 49)), .int (nI (((eFst n τ) / 7) % 7)), .long (nSa (τ (((eFst n τ) / 7) % 7)) ((eFst n τ) / 49))]) (rest := []) (v := (nRecv (τ ((eFst n τ) % 7)) n f ((eFst n τ) / 49) (((eFst n τ) / 7) % 7) (nSa (τ (((eFst n τ) / 7) % 7)) ((eFst n τ) / 49))).1) (ws' := oW cI cJ cO h hN ad n f fa (va_up τ ((eFst n τ) % 7) ((nRecv (τ ((eFst n τ) % 7)) n f ((eFst n τ) / 49) (((eFst n τ) / 7) % 7) (nSa (τ (((eFst n τ) / 7) % 7)) ((eFst n τ) / 49))).2))) cx hKn hA (fun sz => c_N_receive l D cI cJ (ad ((eFst n τ) % 7)) ((eFst n τ) % 7) n f (τ ((eFst n τ) % 7)) ((eFst n τ) / 49) (((eFst n τ) / 7) % 7) (nSa (τ (((eFst n τ) / 7) % 7)) ((eFst n τ) / 49)) ((hst (eFst n τ % 7) (by omega)).1) ((hst (eFst n τ % 7) (by omega)).2.1) ((hst (eFst n τ % 7) (by omega)).2.2) (by omega) (by omega) (by omega) (by omega) sz) (cwV 3 cx.2.2.2.2 (good_V wm_142 wm_139 wm_140 wm_141 wm_3) rfl rfl rfl (by decide +kernel) ⟨Nat.le_of_ble_eq_true rfl, Nat.le_of_ble_eq_true rfl⟩) (oW_J (by omega) _) 0 0 rfl rfl rfl rfl rfl (Nat.le_of_ble_eq_true rfl) d_E_pump_72 ⟨Nat.zero_le _, Nat.zero_le _⟩ ?_
          refine gj_pop (pc := 75) cx d_E_pump_75 rfl ?_
          refine gj_iincN (pc := 76) cx d_E_pump_76 (k := 5) (d := 1) (lo' := [(2, .int (nI (i + 1))), (5, .int (nI (((eFst n τ) / 7) % 7))), (4, .int (nI ((eFst n τ) / 49))), (3, .int (nI (eFst n τ))), (0, .ref h), (1, .int (nI k))]) rfl (by decide) (by decide) rfl ?_
          refine gj_goto (pc := 79) cx d_E_pump_79 (tgt := 15) rfl ?_
          refine gj_pick (lo' := [(0, .ref h), (1, .int (nI k)), (2, .int (nI (i + 1)))]) [4, 5, 0] rfl ?_
          exact ih (by omega) _ ⟨(ePump_step (by omega) hL).symm.trans hE, eInv_up hst (nInv_recv hn (hst _ (by omega)))⟩
    · refine gj_iconst (pc := 11) cx d_E_pump_11 (v := (-1)) (by decide) ?_
      exact gj_iretW (pc := 12) cx hr hlk d_E_pump_12 (by rw [ePumpC, if_neg (fun z => hb2 z.2)] <;> rfl) (by rw [ePumpC, if_neg (fun z => hb2 z.2)] <;> rfl)
