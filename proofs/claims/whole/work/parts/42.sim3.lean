/-! A node of the class against the reference's rows of it: relation, invariant, the small steps -/
def NR (n : Nat) (z : Int64) (me : Nat) (u : NS) (L : LV) : Prop :=
  (nCo u = lSt L ∧ nFu u = lFu L ∧ nSu u = lSu L) ∧ (∀ t, t ≤ 140 → nSa u t = lSaid L me t) ∧
  ((∀ b, b < n → nCn u b = lCnt L b) ∧ (∀ b, b < n → nFr u b = lFr L b) ∧ (∀ b, b < n → nBa u b = rWo (lAp L) 0 b z n)) ∧
  ((∀ k i y, 1 ≤ k → k ≤ 3 → i < 35 → y < n → nTo u ((k * 35 + i) * 7 + y) = m1 (lHe L (lHi k i y))) ∧ (∀ y, y < n → nTo u (980 + y) = lN (lHm L y) - 1)) ∧
  (∀ i, i < 35 → nAc u i = m1 (lAc L i))
def iGap (n : Nat) (L : LV) : Prop := ∀ b s, b < n → s < 5 → (lAp L (b * 5 + s) ≠ 0 ↔ s < lCnt L b)
def iHi (n : Nat) (L : LV) : Prop := ∀ i, 5 * n ≤ i → i < 35 → (lEc L i = 0 ∧ lRe L i = 0 ∧ lAp L i = 0) ∧ ∀ k y, 1 ≤ k → k ≤ 3 → y < n → lHe L (lHi k i y) = 0
def iWf (n : Nat) (g : Nat → Int64) : Prop := ∀ i, i < 35 → g i ≠ 0 → wfP (g i) (i / 5) n = true
def iMk (n : Nat) (L : LV) : Prop := lMa L = 0 ∨ (lMa L - 1 < 2 ^ (3 * n) ∧ ∀ b, b < n → rDg (lMa L - 1) b ≤ lCnt L b)
def NI (n me : Nat) (L : LV) : Prop :=
  (lFu L ≤ 9 ∧ lSu L ≤ 5 ∧ (∀ y, lHm L y ≤ 2097152)) ∧ iGap n L ∧ iHi n L ∧ (iWf n (lEc L) ∧ iWf n (lRe L) ∧ iWf n (lAp L) ∧ iWf n (lAc L)) ∧
  (∀ s, s < lSu L → wfP (lOw L s) me n = true) ∧ (∀ j, lHe L j ≠ -1) ∧ iMk n L ∧ (∀ b, b < n → lFr L b ≤ lCnt L b) ∧
  (∀ i, i < 35 → lEc L i ≠ 0 ∨ lRe L i ≠ 0 → lFr L (i / 5) ≤ i % 5)
theorem wf_ne {p : Int64} {a n : Nat} (h : wfP p a n = true) : p ≠ 0 := by
  simp only [wfP, Bool.and_eq_true, decide_eq_true_eq] at h
  intro e
  rw [e] at h
  exact h.2.2.1 (by decide)
theorem wf_n1 {p : Int64} {a n : Nat} (hn : n ≤ 7) (h : wfP p a n = true) : p ≠ -1 := by
  have h1 := wf_34 hn h
  intro e
  rw [e] at h1
  exact absurd h1 (by decide)
theorem wf_pay {p : Int64} {a n : Nat} (h : wfP p a n = true) : payN p < n ∧ payN p ≠ a := by
  simp only [wfP, Bool.and_eq_true, decide_eq_true_eq] at h
  exact ⟨h.1, h.2.1⟩
theorem m1_ne {p : Int64} (h : p ≠ 0) : m1 p = p := if_neg h
theorem m1_0 : m1 0 = -1 := rfl
theorem m1_is {p : Int64} (h : p ≠ -1) : m1 p = -1 ↔ p = 0 := by
  unfold m1
  split
  · rename_i e; exact ⟨fun _ => e, fun _ => rfl⟩
  · rename_i e; exact ⟨fun w => absurd w h, fun w => absurd w e⟩
theorem m1_eq {p q : Int64} (h0 : p ≠ 0) (h1 : p ≠ -1) : m1 q = p ↔ q = p := by
  unfold m1
  split
  · rename_i e; rw [e]; exact ⟨fun w => absurd w.symm h1, fun w => absurd w.symm h0⟩
  · exact Iff.rfl
theorem nr_down {n me : Nat} {z : Int64} {u : NS} {L : LV} (h : NR n z me u L) : NR n z me (nDown u) (lFall L) :=
  ⟨⟨rfl, rfl, h.1.2.2⟩, h.2.1, h.2.2.1, ⟨fun _ _ _ _ _ _ _ => rfl, fun _ _ => rfl⟩, fun _ _ => rfl⟩
theorem ni_fall {n me : Nat} {L : LV} (h : NI n me L) : NI n me (lFall L) := by
  obtain ⟨⟨h1, h2, h3⟩, hg, hh, ⟨w1, w2, w3, w4⟩, ho, he, hm, hf, hk⟩ := h
  exact ⟨⟨Nat.zero_le _, h2, fun _ => Nat.zero_le _⟩, hg, fun i a b => ⟨(hh i a b).1, fun _ _ _ _ _ => rfl⟩, ⟨w1, w2, w3, fun _ _ w => absurd rfl w⟩, ho, fun _ => (show (0 : Int64) ≠ -1 by decide), hm, hf, hk⟩
theorem sd_0 (L : LV) (me i : Nat) : lSd0 L me 0 i = if lFr L (i / 5) < i % 5 + 1 then (if me = i / 5 ∧ i % 5 + 1 ≤ lSu L then lOw L (i % 5) else 0) else 0 := by
  unfold lSd0
  rw [if_neg (by decide : ¬ (0 : Nat) = 3), if_neg (by decide : ¬ (0 : Nat) = 1), if_neg (by decide : ¬ (0 : Nat) = 2)]
theorem sd_1 (L : LV) (me i : Nat) : lSd0 L me 1 i = if lFr L (i / 5) < i % 5 + 1 then lEc L i else 0 := by
  unfold lSd0
  rw [if_neg (by decide : ¬ (1 : Nat) = 3), if_pos (rfl : (1 : Nat) = 1)]
theorem sd_2 (L : LV) (me i : Nat) : lSd0 L me 2 i = if lFr L (i / 5) < i % 5 + 1 then lRe L i else 0 := by
  unfold lSd0
  rw [if_neg (by decide : ¬ (2 : Nat) = 3), if_neg (by decide : ¬ (2 : Nat) = 1), if_pos (rfl : (2 : Nat) = 2)]
theorem sd_3 (L : LV) (me i : Nat) : lSd0 L me 3 i = lAp L i := if_pos rfl
theorem said_4 (L : LV) (me : Nat) : lSaid L me 140 = lN (lMa L) - 1 := if_pos rfl
theorem said_k {L : LV} {me t : Nat} (h : t < 140) : lSaid L me t = m1 (lSd0 L me (t / 35) (t % 35)) := if_neg (by omega)
theorem t_cases {t : Nat} (h : t ≤ 140) : t = 140 ∨ (t < 140 ∧ (t / 35 = 0 ∨ t / 35 = 1 ∨ t / 35 = 2 ∨ t / 35 = 3)) := by omega
theorem said_ec {L : LV} {me i t : Nat} {p : Int64} (hi : i < 35) (ht : t ≤ 140) (h : t ≠ 35 + i) : lSaid (lUpEc L i p) me t = lSaid L me t := by
  rcases t_cases ht with rfl | ⟨ht1, e | e | e | e⟩
  · rfl
  · rw [said_k ht1, said_k ht1, e, sd_0, sd_0]; rfl
  · rw [said_k ht1, said_k ht1, e, sd_1, sd_1]
    show m1 (if lFr L (t % 35 / 5) < t % 35 % 5 + 1 then va_up (lEc L) i p (t % 35) else 0) = _
    rw [up_e (show t % 35 ≠ i by omega)]
  · rw [said_k ht1, said_k ht1, e, sd_2, sd_2]; rfl
  · rw [said_k ht1, said_k ht1, e, sd_3, sd_3]; rfl
theorem said_re {L : LV} {me i t : Nat} {p : Int64} (hi : i < 35) (ht : t ≤ 140) (h : t ≠ 70 + i) : lSaid (lUpRe L i p) me t = lSaid L me t := by
  rcases t_cases ht with rfl | ⟨ht1, e | e | e | e⟩
  · rfl
  · rw [said_k ht1, said_k ht1, e, sd_0, sd_0]; rfl
  · rw [said_k ht1, said_k ht1, e, sd_1, sd_1]; rfl
  · rw [said_k ht1, said_k ht1, e, sd_2, sd_2]
    show m1 (if lFr L (t % 35 / 5) < t % 35 % 5 + 1 then va_up (lRe L) i p (t % 35) else 0) = _
    rw [up_e (show t % 35 ≠ i by omega)]
  · rw [said_k ht1, said_k ht1, e, sd_3, sd_3]; rfl
theorem nWr_ne {u : NS} {t : Nat} {p : Int64} (h : ¬ nFu u = 1) : nWr u t p = sSa (sFu u (nFu u - 1)) (va_up (nSa u) t p) := if_neg h
theorem nr_ec {n me i : Nat} {z p : Int64} {u : NS} {L : LV} (h : NR n z me u L) (h1 : ¬ nFu u = 1) (hi : i < 35) (hf : lFr L (i / 5) < i % 5 + 1) (hp : p ≠ 0) : NR n z me (nWr u (35 + i) p) (lUpEc (lBurn L) i p) := by
  rw [nWr_ne h1]
  refine ⟨⟨h.1.1, congrArg (· - 1) h.1.2.1, h.1.2.2⟩, fun t ht => ?_, h.2.2.1, h.2.2.2.1, h.2.2.2.2⟩
  show va_up (nSa u) (35 + i) p t = _
  by_cases ht2 : t = 35 + i
  · subst ht2
    rw [up_s]
    rw [said_k (by omega), show (35 + i) / 35 = 1 by omega, show (35 + i) % 35 = i by omega, sd_1, if_pos (show lFr (lUpEc (lBurn L) i p) (i / 5) < i % 5 + 1 from hf)]
    show p = m1 (va_up (lEc L) i p i)
    rw [up_s, m1_ne hp]
  · rw [up_e ht2, said_ec hi ht ht2]
    exact h.2.1 t ht
theorem nr_re {n me i : Nat} {z p : Int64} {u : NS} {L : LV} (h : NR n z me u L) (h1 : ¬ nFu u = 1) (hi : i < 35) (hf : lFr L (i / 5) < i % 5 + 1) (hp : p ≠ 0) : NR n z me (nWr u (70 + i) p) (lUpRe (lBurn L) i p) := by
  rw [nWr_ne h1]
  refine ⟨⟨h.1.1, congrArg (· - 1) h.1.2.1, h.1.2.2⟩, fun t ht => ?_, h.2.2.1, h.2.2.2.1, h.2.2.2.2⟩
  show va_up (nSa u) (70 + i) p t = _
  by_cases ht2 : t = 70 + i
  · subst ht2
    rw [up_s]
    rw [said_k (by omega), show (70 + i) / 35 = 2 by omega, show (70 + i) % 35 = i by omega, sd_2, if_pos (show lFr (lUpRe (lBurn L) i p) (i / 5) < i % 5 + 1 from hf)]
    show p = m1 (va_up (lRe L) i p i)
    rw [up_s, m1_ne hp]
  · rw [up_e ht2, said_re hi ht ht2]
    exact h.2.1 t ht
theorem up_all {g : Nat → Int64} {n i : Nat} {p : Int64} (h : iWf n g) (hp : p = 0 ∨ wfP p (i / 5) n = true) : iWf n (va_up g i p) := by
  intro j hj h0
  by_cases e : j = i
  · subst e
    rw [up_s] at h0 ⊢
    exact hp.resolve_left h0
  · rw [up_e e] at h0 ⊢
    exact h j hj h0
theorem ni_burn {n me : Nat} {L : LV} (h : NI n me L) : NI n me (lBurn L) := by
  obtain ⟨⟨h1, h2⟩, h3⟩ := h
  exact ⟨⟨by show lFu L - 1 ≤ 9; omega, h2⟩, h3⟩
theorem ni_ec {n me i : Nat} {p : Int64} {L : LV} (h : NI n me L) (hi : i < 5 * n) (hf : lFr L (i / 5) < i % 5 + 1) (hp : wfP p (i / 5) n = true) : NI n me (lUpEc L i p) := by
  obtain ⟨h1, hg, hh, ⟨w1, w2, w3, w4⟩, ho, he, hm, hfr, hk⟩ := h
  refine ⟨h1, hg, fun j a b => ?_, ⟨up_all w1 (Or.inr hp), w2, w3, w4⟩, ho, he, hm, hfr, fun j hj h0 => ?_⟩
  · have := hh j a b
    refine ⟨⟨?_, this.1.2⟩, this.2⟩
    show va_up (lEc L) i p j = 0
    rw [up_e (by omega)]
    exact this.1.1
  · by_cases e : j = i
    · subst e; show lFr L (j / 5) ≤ j % 5; omega
    · refine hk j hj ?_
      rcases h0 with h0 | h0
      · left
        have h0' : va_up (lEc L) i p j ≠ 0 := h0
        rw [up_e e] at h0'
        exact h0'
      · exact Or.inr h0
theorem ni_re {n me i : Nat} {p : Int64} {L : LV} (h : NI n me L) (hi : i < 5 * n) (hf : lFr L (i / 5) < i % 5 + 1) (hp : wfP p (i / 5) n = true) : NI n me (lUpRe L i p) := by
  obtain ⟨h1, hg, hh, ⟨w1, w2, w3, w4⟩, ho, he, hm, hfr, hk⟩ := h
  refine ⟨h1, hg, fun j a b => ?_, ⟨w1, up_all w2 (Or.inr hp), w3, w4⟩, ho, he, hm, hfr, fun j hj h0 => ?_⟩
  · have := hh j a b
    refine ⟨⟨this.1.1, ?_, this.1.2.2⟩, this.2⟩
    show va_up (lRe L) i p j = 0
    rw [up_e (by omega)]
    exact this.1.2.1
  · by_cases e : j = i
    · subst e; show lFr L (j / 5) ≤ j % 5; omega
    · refine hk j hj ?_
      rcases h0 with h0 | h0
      · exact Or.inl h0
      · right
        have h0' : va_up (lRe L) i p j ≠ 0 := h0
        rw [up_e e] at h0'
        exact h0'
theorem nr_he {n me k i y : Nat} {z p : Int64} {u : NS} {L : LV} (hn : n ≤ 7) (h : NR n z me u L) (hk : 1 ≤ k) (hk3 : k ≤ 3) (hi : i < 35) (hy : y < n) (hp : p ≠ 0) : NR n z me (sTo u (va_up (nTo u) ((k * 35 + i) * 7 + y) p)) (lUpHe L (lHi k i y) p) := by
  refine ⟨h.1, h.2.1, h.2.2.1, ⟨fun k' i' y' a b c d => ?_, fun y' d => ?_⟩, h.2.2.2.2⟩
  · show va_up (nTo u) ((k * 35 + i) * 7 + y) p ((k' * 35 + i') * 7 + y') = m1 (va_up (lHe L) (lHi k i y) p (lHi k' i' y'))
    by_cases e : (k' * 35 + i') * 7 + y' = (k * 35 + i) * 7 + y
    · rw [e, up_s, show lHi k' i' y' = lHi k i y by unfold lHi; omega, up_s, m1_ne hp]
    · rw [up_e e, up_e (show lHi k' i' y' ≠ lHi k i y by unfold lHi; omega)]
      exact h.2.2.2.1.1 k' i' y' a b c d
  · show va_up (nTo u) ((k * 35 + i) * 7 + y) p (980 + y') = _
    rw [up_e (by omega)]
    exact h.2.2.2.1.2 y' d
theorem lHi_inj {k i y k' i' y' : Nat} (hi : i < 35) (hi' : i' < 35) (hy : y < 7) (hy' : y' < 7) (e : lHi k' i' y' = lHi k i y) : i' = i ∧ k' - 1 = k - 1 ∧ y' = y := by
  unfold lHi at e
  have h1 : (k' - 1) * 35 + i' = (k - 1) * 35 + i := by omega
  have h2 : i' = i := by omega
  omega
theorem ni_he {n me k i y : Nat} {p : Int64} {L : LV} (hn : n ≤ 7) (h : NI n me L) (hk : 1 ≤ k) (hk3 : k ≤ 3) (hi : i < 5 * n) (hy : y < n) (hp : p ≠ -1) : NI n me (lUpHe L (lHi k i y) p) := by
  obtain ⟨h1, hg, hh, hw, ho, he, hr⟩ := h
  refine ⟨h1, hg, fun j a b => ⟨(hh j a b).1, fun k' y' c d e => ?_⟩, hw, ho, fun j => ?_, hr⟩
  · show va_up (lHe L) (lHi k i y) p (lHi k' j y') = 0
    rw [up_e (fun w => by have := (lHi_inj (by omega) b (by omega) (by omega) w).1; omega)]
    exact (hh j a b).2 k' y' c d e
  · show va_up (lHe L) (lHi k i y) p j ≠ -1
    by_cases e : j = lHi k i y
    · rw [e, up_s]; exact hp
    · rw [up_e e]; exact he j
theorem lN_pn (p : Int64) : lN (pn p + 1) - 1 = p := by
  rw [← lN_add, ← px_of]
  exact Int64.add_sub_cancel _ _
theorem nr_hm {n me y : Nat} {z p : Int64} {u : NS} {L : LV} (hn : n ≤ 7) (h : NR n z me u L) (hy : y < n) : NR n z me (sTo u (va_up (nTo u) (140 * 7 + y) p)) (lUpHm L y (pn p + 1)) := by
  refine ⟨h.1, h.2.1, h.2.2.1, ⟨fun k' i' y' a b c d => ?_, fun y' d => ?_⟩, h.2.2.2.2⟩
  · show va_up (nTo u) (140 * 7 + y) p ((k' * 35 + i') * 7 + y') = _
    rw [up_e (by omega)]
    exact h.2.2.2.1.1 k' i' y' a b c d
  · show va_up (nTo u) (140 * 7 + y) p (980 + y') = lN (va_up (lHm L) y (pn p + 1) y') - 1
    by_cases e : y' = y
    · rw [e, show 980 + y = 140 * 7 + y by omega, up_s, up_s, lN_pn]
    · rw [up_e e, up_e (by omega)]
      exact h.2.2.2.1.2 y' d
theorem ni_hm {n me y v : Nat} {L : LV} (h : NI n me L) (hv : v ≤ 2097152) : NI n me (lUpHm L y v) := by
  obtain ⟨⟨h1, h2, h3⟩, hr⟩ := h
  refine ⟨⟨h1, h2, fun y' => ?_⟩, hr⟩
  show va_up (lHm L) y v y' ≤ _
  by_cases e : y' = y
  · rw [e, up_s]; exact hv
  · rw [up_e e]; exact h3 y'
theorem nr_ac {n me i : Nat} {z p : Int64} {u : NS} {L : LV} (h : NR n z me u L) : NR n z me (sAc u (va_up (nAc u) i (m1 p))) (lUpAc L i p) := by
  refine ⟨h.1, h.2.1, h.2.2.1, h.2.2.2.1, fun j hj => ?_⟩
  show va_up (nAc u) i (m1 p) j = m1 (va_up (lAc L) i p j)
  by_cases e : j = i
  · rw [e, up_s, up_s]
  · rw [up_e e, up_e e]; exact h.2.2.2.2 j hj
theorem ni_ac {n me i : Nat} {p : Int64} {L : LV} (h : NI n me L) (hp : p = 0 ∨ wfP p (i / 5) n = true) : NI n me (lUpAc L i p) := by
  obtain ⟨h1, hg, hh, ⟨w1, w2, w3, w4⟩, ho, he, hm, hfr, hk⟩ := h
  exact ⟨h1, hg, hh, ⟨w1, w2, w3, up_all w4 hp⟩, ho, he, hm, hfr, hk⟩
