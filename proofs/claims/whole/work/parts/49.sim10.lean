/-! What is pending, pumping, crashing: class against reference -/
theorem obj_told {n me t y : Nat} {z p : Int64} {u : NS} {L : LV} (h : NR n z me u L) (h0 : T0 u) (hy : y < 7) (ht : t ≤ 140) (hp : p ≠ -1) (ho : nObj u t y p = 0) : nTo u (t * 7 + y) ≠ p := by
  unfold nObj at ho
  split at ho
  · split at ho
    · exact absurd ho (by decide)
    · assumption
  · split at ho
    · exact absurd ho (by decide)
    · split at ho
      · exact absurd ho (by decide)
      · rename_i h4 _ _
        by_cases hk : t / 35 = 0
        · rw [h0 (t * 7 + y) (by omega)]
          exact fun w => hp w.symm
        · rw [if_neg hk] at ho
          split at ho
          · rename_i w
            rw [w]
            exact fun w => hp w.symm
          · exact absurd ho (by decide)
theorem sim_pd {n f fa t y x : Nat} {z : Int64} {σ : Nat → NS} {S : RS} (h : Sim n f z fa σ S) (ht : t < 141) (hy : y < n) (hx : x < n) : ePd σ t y x = rPd S n t y x := by
  have hn := h.1.2.1
  obtain ⟨⟨-, hT0⟩, hR, hI⟩ := h.2.2.1 x hx
  have hS := sim_said h hy (t := t) (by omega)
  have hIy := (h.2.2.1 y hy).2.2
  unfold ePd rPd nWould
  rw [hS, sim_co h hy, sim_co h hx, rUp_N hn hx]
  by_cases hb : t = 140 ∨ t % 35 / 5 < n
  · have ht2 : t = 140 ∨ (t < 140 ∧ t % 35 < 5 * n) := by omega
    have hT : tpc n (nI (t / 35)) (nI (tA t)) (nI (tQ t)) = some t := by rw [tpc_t hn ht, if_pos hb]
    have e1 : rSd S n y t = lSaid (rv S y) y t := by
      show rSaidC _ _ _ _ _ _ = _
      unfold rSaidC
      rw [hT]
      exact rv_said (by omega)
    have e2 : ∀ p, rOb S n x y t p = lObj (rv S x) n y t p := fun p => by
      show rObjC _ _ _ _ _ _ _ _ = _
      unfold rObjC
      rw [hT]
      exact rv_obj (by omega) (by omega)
    rw [e1, e2]
    by_cases hP : lSaid (rv S y) y t = -1
    · rw [hP]
      rw [decide_eq_false (show ¬ (-1 : Int64) ≠ -1 from fun w => w rfl), decide_eq_false (show ¬ ¬ (-1 : Int64) < 0 by decide)]
      simp
    · obtain ⟨w1, w2⟩ := said_wf hn hIy ht2 hP
      rw [decide_eq_true hP, decide_eq_true w2, Bool.true_and, Bool.true_and]
      congr 1
      congr 1
      rw [← sim_obj hn hR hI hy ht2, w1, if_neg (by decide)]
      by_cases ho : nObj (σ x) t y (lSaid (rv S y) y t) = 0
      · rw [decide_eq_true ho, Bool.and_true]
        exact decide_eq_true (obj_told hR hT0 (by omega) (by omega) hP ho)
      · rw [decide_eq_false ho, Bool.and_false]
  · have hT : tpc n (nI (t / 35)) (nI (tA t)) (nI (tQ t)) = none := by rw [tpc_t hn ht, if_neg hb]
    have e1 : rSd S n y t = -1 := rSaid_none hT
    rw [e1, decide_eq_false (show ¬ ¬ (-1 : Int64) < 0 by decide)]
    have ht3 : t < 140 := by omega
    have hh := (hIy.2.2.1 (t % 35) (by omega) (by omega)).1
    have e2 : lSaid (rv S y) y t = -1 := by
      rw [said_k ht3]
      rcases (show t / 35 = 0 ∨ t / 35 = 1 ∨ t / 35 = 2 ∨ t / 35 = 3 by omega) with e | e | e | e
      · rw [e, sd_0]
        split
        · rw [if_neg (by omega)]; rfl
        · rfl
      · rw [e, sd_1, hh.1]; split <;> rfl
      · rw [e, sd_2, hh.2.1]; split <;> rfl
      · rw [e, sd_3, hh.2.2]; rfl
    rw [e2, decide_eq_false (show ¬ (-1 : Int64) ≠ -1 from fun w => w rfl)]
    simp
theorem sim_pend {n f fa : Nat} {z : Int64} {σ : Nat → NS} {S : RS} (h : Sim n f z fa σ S) : ePend n σ = rPend S n :=
  sumN_eq (fun t ht => sumN_eq (fun y hy => cntB_eq (fun x hx => sim_pd h ht hy hx)))
theorem sim_fst {n f fa : Nat} {z : Int64} {σ : Nat → NS} {S : RS} (h : Sim n f z fa σ S) : eFst n σ = rFst n S := by
  refine fstB_eq (fun k _ hk => ?_)
  unfold ePm rPm
  by_cases h1 : k / 7 % 7 < n
  · by_cases h2 : k % 7 < n
    · rw [sim_pd h (by omega) h1 h2]
    · rw [decide_eq_false h2, Bool.false_and, Bool.false_and]
  · rw [decide_eq_false h1, Bool.false_and, Bool.false_and]
theorem sim_pump {n f : Nat} {z : Int64} : ∀ (m k fa : Nat) (σ : Nat → NS) (S : RS), Sim n f z fa σ S → (ePump n f m k σ).1 = (rPump n f z m k S).1 ∧ Sim n f z fa (ePump n f m k σ).2 (rPump n f z m k S).2
  | 0, _, _, _, _, h => ⟨rfl, h⟩
  | m + 1, k, fa, σ, S, h => by
    have hn := h.1.2.1
    rw [ePump, rPump, sim_fst h]
    by_cases e : rFst n S = 6909
    · rw [if_pos e, if_pos e]; exact ⟨rfl, h⟩
    · rw [if_neg e, if_neg e]
      have hF : ¬ eFst n σ = 6909 := by rw [sim_fst h]; exact e
      obtain ⟨f1, f2, f3⟩ := eFst_lt hF
      have hP : ePm n σ (eFst n σ) = true := fstB_P (P := ePm n σ) (k := 6909) (i := 0) (by unfold eFst at f1; omega)
      rw [sim_fst h] at f1 f2 f3 hP
      generalize rFst n S = F at *
      have hpd : ePd σ (F / 49) (F / 7 % 7) (F % 7) = true := by
        unfold ePm at hP
        rw [Bool.and_eq_true, Bool.and_eq_true] at hP
        exact hP.2.2
      have hpr := hpd
      rw [sim_pd h (by omega) f2 f3] at hpr
      unfold ePd at hpd
      unfold rPd at hpr
      simp only [Bool.and_eq_true, decide_eq_true_eq] at hpd hpr
      have hS := sim_said h f2 (t := F / 49) (by omega)
      have hb : F / 49 = 140 ∨ F / 49 % 35 / 5 < n := by
        apply Classical.byContradiction
        intro w
        have hT : tpc n (nI (F / 49 / 35)) (nI (tA (F / 49))) (nI (tQ (F / 49))) = none := by rw [tpc_t hn (by omega), if_neg w]
        exact hpr.2.1 (by rw [show rSd S n (F / 7 % 7) (F / 49) = -1 from rSaid_none hT]; decide)
      have hT : tpc n (nI (F / 49 / 35)) (nI (tA (F / 49))) (nI (tQ (F / 49))) = some (F / 49) := by rw [tpc_t hn (by omega), if_pos hb]
      have e1 : rSd S n (F / 7 % 7) (F / 49) = nSa (σ (F / 7 % 7)) (F / 49) := by
        rw [hS]
        show rSaidC _ _ _ _ _ _ = _
        unfold rSaidC
        rw [hT]
        exact rv_said (by omega)
      have hux : rSt S (F % 7) = 0 := by
        have := hpr.2.2.1
        rw [rUp_N hn f3] at this
        exact of_decide_eq_true this
      have st := sim_step (p := nSa (σ (F / 7 % 7)) (F / 49)) h f3 f2 hT (by omega) (fun ht2 => said_ok h f2 hpr.1 (by omega) (by rw [← hS]; exact hpd.1) ht2)
      unfold rDel
      rw [e1]
      exact sim_pump m (k + 1) fa _ _ st.2
theorem sim_pumpC {n f fa : Nat} {z : Int64} {σ : Nat → NS} {S : RS} (k : Int32) (h : Sim n f z fa σ S) : (ePumpC n f σ k).1 = (rPumpC S n f z k).1 ∧ Sim n f z fa (ePumpC n f σ k).2 (rPumpC S n f z k).2 := by
  unfold ePumpC rPumpC
  by_cases hc : ¬ k < nI 1 ∧ k ≤ nI 8
  · rw [if_pos hc, if_pos hc]
    have := sim_pump (xN k) 0 fa σ S h
    exact ⟨congrArg nI this.1, this.2⟩
  · rw [if_neg hc, if_neg hc]; exact ⟨rfl, h⟩
theorem rKp_self {S : RS} (h : rOk S) : rKp (rMa S) S := ⟨h, rfl⟩
theorem sim_fall {n f fa x : Nat} {z : Int64} {σ : Nat → NS} {S : RS} (h : Sim n f z fa σ S) (hx : x < n) (h2 : rSt S x ≠ 2) : Sim n f z fa (va_up σ x (nDown (σ x))) (rFall S x) := by
  obtain ⟨⟨hi, h0⟩, hR, hI⟩ := h.2.2.1 x hx
  refine Sim_up h hx at_fall (nInv_down hi) t0_down (nr_down hR) (ni_fall hI) (rInv_of h.2.2.2.1 (rKp_fall (rKp_self h.2.2.2.1.1))) ⟨fun w => absurd w (show ¬ (1 : Nat) = 2 by decide), fun w => absurd w h2⟩ (Nat.le_refl _) (fun w => ?_)
  exact li_fall h.1.2.1 (h.2.2.2.2 x hx w)
theorem sim_crash {n f fa : Nat} {z : Int64} {σ : Nat → NS} {S : RS} (x : Int32) (h : Sim n f z fa σ S) : (eCrash n σ x).1 = (rCrash S n x).1 ∧ Sim n f z fa (eCrash n σ x).2 (rCrash S n x).2 := by
  have hn := h.1.2.1
  unfold eCrash rCrash
  rw [sim_up_eq h]
  by_cases hc : rUp S n x = true
  · rw [if_pos hc, if_pos hc]
    obtain ⟨x', hx', rfl, hx0⟩ := rUp_of hn hc
    rw [xN_nI (by omega)]
    exact ⟨rfl, sim_fall h hx' (by omega)⟩
  · rw [if_neg hc, if_neg hc]; exact ⟨rfl, h⟩
theorem up_le {g : Nat → Nat} {i v c : Nat} (h : ∀ j, g j ≤ c) (hv : v ≤ c) : ∀ j, va_up g i v j ≤ c := by
  intro j
  by_cases e : j = i
  · rw [e, up_s]; exact hv
  · rw [up_e e]; exact h j
theorem rInv_st {n x v : Nat} {S : RS} (h : rInv n S) (hv : v ≤ 2) : rInv n (rUpSt S x v) := ⟨⟨up_le h.1.1 hv, h.1.2⟩, h.2⟩
theorem rInv_fu {n x v : Nat} {S : RS} (h : rInv n S) (hv : v ≤ 9) : rInv n (rUpFu S x v) := ⟨⟨h.1.1, up_le h.1.2.1 hv, h.1.2.2⟩, h.2⟩
theorem nInv_co {n v : Nat} {u : NS} (h : nInv n u) (hv : v ≤ 2) : nInv n (sCo u v) := ⟨⟨hv, h.1.2⟩, h.2⟩
theorem nInv_fu {n v : Nat} {u : NS} (h : nInv n u) (hv : v ≤ 9) : nInv n (sFu u v) := ⟨⟨h.1.1, hv, h.1.2.2⟩, h.2⟩
theorem nr_co {n me v : Nat} {z : Int64} {u : NS} {L : LV} (h : NR n z me u L) : NR n z me (sCo u v) (lUpSt L v) := ⟨⟨rfl, h.1.2⟩, h.2⟩
theorem nr_fu {n me v : Nat} {z : Int64} {u : NS} {L : LV} (h : NR n z me u L) : NR n z me (sFu u v) (lUpFu L v) := ⟨⟨h.1.1, rfl, h.1.2.2⟩, h.2⟩
theorem ni_co {n me v : Nat} {L : LV} (h : NI n me L) : NI n me (lUpSt L v) := h
theorem ni_fu {n me v : Nat} {L : LV} (h : NI n me L) (hv : v ≤ 9) : NI n me (lUpFu L v) := ⟨⟨hv, h.1.2⟩, h.2⟩
theorem sim_rest {n f fa : Nat} {z : Int64} {σ : Nat → NS} {S : RS} (x : Int32) (h : Sim n f z fa σ S) : (eRest n σ x).1 = (rRest S n x).1 ∧ Sim n f z fa (eRest n σ x).2 (rRest S n x).2 := by
  have hn := h.1.2.1
  unfold eRest rRest
  rw [sim_state h]
  have hiff : rState S n x = nI 1 ↔ (rCor S n x = true ∧ rSt S (xN x) = 1) := by
    cases hb : isN n x with
    | false => rw [rState_f hb, rCor_f hb]; exact ⟨fun w => absurd w (by decide), fun w => by cases w.1⟩
    | true =>
      obtain ⟨k, hk, rfl⟩ := isN_of hn hb
      have := h.2.2.2.1.1.1 k
      rw [rState_N hn hk, rCor_N hn hk, xN_nI (by omega), nI_eq (by omega) (by omega), decide_eq_true_eq]
      omega
  by_cases hc : rState S n x = nI 1
  · obtain ⟨c1, c2⟩ := hiff.mp hc
    rw [if_pos hc, if_pos ⟨c1, c2⟩]
    obtain ⟨k, hk, rfl, hk2⟩ := rCor_of hn c1
    rw [xN_nI (by omega)] at c2 ⊢
    obtain ⟨⟨hi, h0⟩, hR, hI⟩ := h.2.2.1 k hk
    exact ⟨rfl, Sim_up h hk at_st (nInv_co hi (by omega)) h0 (nr_co hR) (ni_co hI) (rInv_st h.2.2.2.1 (by omega)) ⟨fun w => absurd w (show ¬ (0 : Nat) = 2 by decide), fun w => absurd w hk2⟩ (Nat.le_refl _) (fun w => h.2.2.2.2 k hk w)⟩
  · rw [if_neg hc, if_neg (fun w => hc (hiff.mpr w))]; exact ⟨rfl, h⟩
theorem sim_fuse {n f fa : Nat} {z : Int64} {σ : Nat → NS} {S : RS} (x k : Int32) (h : Sim n f z fa σ S) : (eFuse n σ x k).1 = (rFuse S n x k).1 ∧ Sim n f z fa (eFuse n σ x k).2 (rFuse S n x k).2 := by
  have hn := h.1.2.1
  unfold eFuse rFuse
  rw [sim_up_eq h]
  by_cases hc : rUp S n x = true ∧ ¬ k < 0 ∧ k ≤ nI 9
  · rw [if_pos hc, if_pos hc]
    obtain ⟨x', hx', rfl, hx0⟩ := rUp_of hn hc.1
    obtain ⟨k', hk', rfl⟩ := nI_of2 (M := 9) (n := 9) (by decide) hc.2.1 hc.2.2
    rw [xN_nI (by omega), xN_nI (by omega)]
    obtain ⟨⟨hi, h0⟩, hR, hI⟩ := h.2.2.1 x' hx'
    exact ⟨rfl, Sim_up h hx' at_fu (nInv_fu hi hk') h0 (nr_fu hR) (ni_fu hI hk') (rInv_fu h.2.2.2.1 hk') Iff.rfl (Nat.le_refl _) (fun w => h.2.2.2.2 x' hx' w)⟩
  · rw [if_neg hc, if_neg hc]; exact ⟨rfl, h⟩
