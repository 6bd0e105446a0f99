/-! The whole relation, and how one node's change keeps it -/
def T0 (u : NS) : Prop := ∀ j, j < 245 → nTo u j = -1
theorem t0_down {u : NS} : T0 (nDown u) := fun _ _ => rfl
theorem t0_wr {u : NS} {t : Nat} {p : Int64} (h : T0 u) : T0 (nWr u t p) := by
  unfold nWr
  split
  · exact t0_down
  · exact h
theorem t0_apply {n : Nat} : ∀ (m d : Nat) (u : NS), T0 u → T0 (nApply n m d u).2
  | 0, _, _, h => h
  | m + 1, d, u, h => by
    rw [nApply]
    split
    · exact h
    · split
      · exact t0_down
      · exact t0_apply m (d + 1) _ (show T0 (nWr u _ _) from t0_wr h)
theorem t0_freeTo {n : Nat} {d : Int64} {u : NS} (h : T0 u) : ∀ k, T0 (nFreeTo n d k u)
  | 0 => h
  | k + 1 => by
    intro j hj
    rw [nFreeTo, nFreeC_eq]
    show fgB n (nTo (nFreeTo n d k u)) _ _ j = -1
    unfold fgB
    split
    · rfl
    · exact t0_freeTo h k j hj
theorem t0_up {u : NS} {j : Nat} {p : Int64} (h : T0 u) (hj : 245 ≤ j) : T0 (sTo u (va_up (nTo u) j p)) := by
  intro i hi
  show va_up (nTo u) j p i = -1
  rw [up_e (by omega)]
  exact h i hi
theorem t0_recv {n f t y : Nat} {p : Int64} {u : NS} (h : T0 u) : T0 (nRecv u n f t y p).2 := by
  unfold nRecv
  split
  · exact h
  · split
    · unfold nTake
      split
      · exact t0_wr h
      · have hv := t0_up (j := t * 7 + y) (p := p) h (by omega)
        generalize sTo u (va_up (nTo u) (t * 7 + y) p) = v at hv
        dsimp only
        split
        · show T0 (nFree v n f)
          unfold nFree
          split
          · exact hv
          · exact t0_freeTo hv n
        · split
          · exact t0_down
          · apply t0_apply
            have hz : T0 (if nRdy v n f (t / 35) (t % 35) p = true then nWr v (70 + t % 35) p else v) := by
              split
              · exact t0_wr hv
              · exact hv
            generalize (if nRdy v n f (t / 35) (t % 35) p = true then nWr v (70 + t % 35) p else v) = w at hz ⊢
            split
            · exact hz
            · exact hz
    · exact h
def Sim (n f : Nat) (z : Int64) (fa : Nat) (σ : Nat → NS) (S : RS) : Prop :=
  (4 ≤ n ∧ n ≤ 7 ∧ f = (n - 1) / 3) ∧ (fa = rFa S n ∧ fa ≤ f) ∧ (∀ x, x < n → (nInv n (σ x) ∧ T0 (σ x)) ∧ NR n z x (σ x) (rv S x) ∧ NI n x (rv S x)) ∧ rInv n S ∧ (∀ x, x < n → rSt S x ≠ 2 → LI n (rSt S) (rSu S) (rv S x))
theorem sim_B : SimB Sim := by
  intro n f z fa σ S h
  obtain ⟨⟨h1, h2, h3⟩, ⟨h4, h5⟩, h6, h7, -⟩ := h
  exact ⟨h2, by omega, by omega, fun x hx => (h6 x hx).1.1, h7⟩
theorem at_st_eq {x y : Nat} {S S' : RS} {L' : LV} (h : AtV x S S' L') (hy : y ≠ x) : rSt S' y = rSt S y := congrArg lSt (h.2 y hy)
theorem at_su_eq {x y : Nat} {S S' : RS} {L' : LV} (h : AtV x S S' L') (hy : y ≠ x) : rSu S' y = rSu S y := congrArg lSu (h.2 y hy)
theorem at_st_s {x : Nat} {S S' : RS} {L' : LV} (h : AtV x S S' L') : rSt S' x = lSt L' := congrArg lSt h.1
theorem at_su_s {x : Nat} {S S' : RS} {L' : LV} (h : AtV x S S' L') : rSu S' x = lSu L' := congrArg lSu h.1
theorem Sim_up {n f fa x : Nat} {z : Int64} {σ : Nat → NS} {S S' : RS} {u : NS} {L' : LV} (h : Sim n f z fa σ S) (hx : x < n) (hA : AtV x S S' L') (hu : nInv n u) (h0 : T0 u) (hR : NR n z x u L') (hI : NI n x L') (hr : rInv n S') (hst : lSt L' = 2 ↔ rSt S x = 2) (hsu : rSu S x ≤ lSu L') (hl : rSt S x ≠ 2 → LI n (rSt S) (rSu S') L') : Sim n f z fa (va_up σ x u) S' := by
  obtain ⟨hn, hf, hs, -, hL⟩ := h
  have e1 : ∀ a, a < n → (rSt S' a = 2 ↔ rSt S a = 2) := fun a _ => by
    by_cases e : a = x
    · rw [e, at_st_s hA]; exact hst
    · rw [at_st_eq hA e]
  have e2 : ∀ a, a < n → rSu S a ≤ rSu S' a := fun a _ => by
    by_cases e : a = x
    · rw [e, at_su_s hA]; exact hsu
    · rw [at_su_eq hA e]; exact Nat.le_refl _
  refine ⟨hn, ⟨?_, hf.2⟩, fun y hy => ?_, hr, fun y hy hy2 => ?_⟩
  · rw [hf.1]
    exact cntB_eq (fun y hy => decide_eq_decide.mpr (e1 y hy).symm)
  · by_cases e : y = x
    · subst e
      rw [up_s, hA.1]
      exact ⟨⟨hu, h0⟩, hR, hI⟩
    · rw [up_e e, hA.2 y e]
      exact hs y hy
  · by_cases e : y = x
    · subst e
      rw [hA.1]
      exact li_mono (hl (fun w => hy2 ((e1 y hy).mpr w))) (fun a ha w w2 => w ((e1 a ha).mpr w2)) (fun a _ => Nat.le_refl _)
    · rw [hA.2 y e]
      exact li_mono (hL y hy (fun w => hy2 ((e1 y hy).mpr w))) (fun a ha w w2 => w ((e1 a ha).mpr w2)) e2
theorem sim_co {n f fa x : Nat} {z : Int64} {σ : Nat → NS} {S : RS} (h : Sim n f z fa σ S) (hx : x < n) : nCo (σ x) = rSt S x := (h.2.2.1 x hx).2.1.1.1
theorem sim_up_eq {n f fa : Nat} {z : Int64} {σ : Nat → NS} {S : RS} (h : Sim n f z fa σ S) (x : Int32) : eUp n σ x = rUp S n x := by
  unfold eUp rUp
  cases hb : isN n x with
  | false => rfl
  | true =>
    obtain ⟨k, hk, rfl⟩ := isN_of h.1.2.1 hb
    rw [xN_nI (by have := h.1.2.1; omega), sim_co h hk]
theorem sim_cor_eq {n f fa : Nat} {z : Int64} {σ : Nat → NS} {S : RS} (h : Sim n f z fa σ S) (x : Int32) : eCor n σ x = rCor S n x := by
  unfold eCor rCor
  cases hb : isN n x with
  | false => rfl
  | true =>
    obtain ⟨k, hk, rfl⟩ := isN_of h.1.2.1 hb
    rw [xN_nI (by have := h.1.2.1; omega), sim_co h hk]
theorem sim_state {n f fa : Nat} {z : Int64} {σ : Nat → NS} {S : RS} (h : Sim n f z fa σ S) (x : Int32) : eState n σ x = rState S n x := by
  unfold eState rState
  cases hb : isN n x with
  | false => rfl
  | true =>
    obtain ⟨k, hk, rfl⟩ := isN_of h.1.2.1 hb
    rw [xN_nI (by have := h.1.2.1; omega), sim_co h hk]
theorem rInv_of {n : Nat} {S S' : RS} (h : rInv n S) (hk : rKp (rMa S) S') : rInv n S' := by
  refine ⟨hk.1, fun x hx => ?_⟩
  have := h.2 x hx
  unfold rMkOk at this ⊢
  rw [hk.2]
  exact this
def lKp (L L' : LV) : Prop := (lSt L' = lSt L ∨ lSt L' = 1) ∧ lSu L' = lSu L
theorem lKp_apy {n : Nat} {z : Int64} {L0 : LV} : ∀ (m d : Nat) (L : LV), lKp L0 L → lKp L0 (lApy n z m d L).2
  | 0, _, _, h => h
  | m + 1, d, L, h => by
    rw [lApy_s]
    split
    · exact h
    · split
      · exact ⟨Or.inr rfl, h.2⟩
      · exact lKp_apy m (d + 1) _ h
theorem lKp_freeTo {n v : Nat} {L0 L : LV} (h : lKp L0 L) : ∀ k, lKp L0 (lFreeTo n v k L)
  | 0 => h
  | k + 1 => by
    rw [lFreeTo, lFreeC_eq]
    exact lKp_freeTo h k
theorem lKp_rv {n f y t : Nat} {z p : Int64} {L : LV} : lKp L (lRv L n f z y t p).2 := by
  have h0 : lKp L L := ⟨Or.inl rfl, rfl⟩
  unfold lRv
  split
  · exact h0
  · split
    · show lKp L (lRel _ n f)
      unfold lRel
      split
      · exact h0
      · exact lKp_freeTo (L := lUpHm L y (pn p + 1)) h0 n
    · unfold lTk
      split
      · split
        · exact ⟨Or.inr rfl, rfl⟩
        · exact h0
      · split
        · exact ⟨Or.inr rfl, rfl⟩
        · apply lKp_apy
          unfold lAcq lMid
          split <;> split <;> exact h0
