/-! Freeing, class against reference -/
def fgA (g : Nat → Int64) (lo m : Nat) : Nat → Int64 := fun t => if t / 35 < 3 ∧ lo ≤ t % 35 ∧ t % 35 < lo + m then -1 else g t
def fgB (n : Nat) (g : Nat → Int64) (lo m : Nat) : Nat → Int64 := fun j => if (1 ≤ j / 245 ∧ j / 245 < 4 ∧ j % 7 < n) ∧ lo ≤ j / 7 % 35 ∧ j / 7 % 35 < lo + m then -1 else g j
theorem nForgets_eq {n c k : Nat} : ∀ (m : Nat) (u : NS), nForgets n c k m u = (nCo u, nFu u, nSu u, fgA (nSa u) (c * 5 + k) m, nCn u, nFr u, nBa u, fgB n (nTo u) (c * 5 + k) m, nAc u)
  | 0, u => by
    have e1 : fgA (nSa u) (c * 5 + k) 0 = nSa u := by funext t; exact if_neg (by omega)
    have e2 : fgB n (nTo u) (c * 5 + k) 0 = nTo u := by funext t; exact if_neg (by omega)
    rw [e1, e2]
    rfl
  | m + 1, u => by
    rw [nForgets, nForgets_eq m u]
    have e1 : ∀ U : NS, nSa U = fgA (nSa u) (c * 5 + k) m → fgS U (c * 5 + (k + m)) 3 = fgA (nSa u) (c * 5 + k) (m + 1) := by
      intro U hU
      funext t
      unfold fgS
      rw [hU]
      unfold fgA
      by_cases h1 : t / 35 < 3 ∧ c * 5 + k ≤ t % 35 ∧ t % 35 < c * 5 + k + (m + 1)
      · rw [if_pos h1]
        by_cases h2 : t % 35 = c * 5 + (k + m) ∧ t / 35 < 3
        · rw [if_pos h2]
        · rw [if_neg h2, if_pos (by omega)]
      · rw [if_neg h1, if_neg (by omega), if_neg (by omega)]
    have e2 : ∀ U : NS, nTo U = fgB n (nTo u) (c * 5 + k) m → fgT U n (c * 5 + (k + m)) 4 0 = fgB n (nTo u) (c * 5 + k) (m + 1) := by
      intro U hU
      funext t
      unfold fgT
      rw [hU]
      unfold fgB
      by_cases h1 : (1 ≤ t / 245 ∧ t / 245 < 4 ∧ t % 7 < n) ∧ c * 5 + k ≤ t / 7 % 35 ∧ t / 7 % 35 < c * 5 + k + (m + 1)
      · rw [if_pos h1]
        by_cases h2 : t / 7 % 35 = c * 5 + (k + m) ∧ 1 ≤ t / 245 ∧ (t / 245 < 4 ∧ t % 7 < n ∨ t / 245 = 4 ∧ t % 7 < 0)
        · rw [if_pos h2]
        · rw [if_neg h2, if_pos (by omega)]
      · rw [if_neg h1, if_neg (by omega), if_neg (by omega)]
    unfold nForget
    rw [e1 _ rfl, e2 _ rfl]
def fgE (g : Nat → Int64) (lo m : Nat) : Nat → Int64 := fun i => if lo ≤ i ∧ i < lo + m then 0 else g i
def fgG (n : Nat) (g : Nat → Int64) (lo m : Nat) : Nat → Int64 := fun j => if (lo ≤ j / 7 % 35 ∧ j / 7 % 35 < lo + m) ∧ j % 7 < n then 0 else g j
theorem lForgets_eq {n c k : Nat} : ∀ (m : Nat) (L : LV), lForgets n c k m L = (lSt L, lFu L, lSu L, lOw L, fgE (lEc L) (c * 5 + k) m, fgE (lRe L) (c * 5 + k) m, lAp L, lFr L, lMa L, fgG n (lHe L) (c * 5 + k) m, lHm L, lAc L)
  | 0, L => by
    have e1 : ∀ g, fgE g (c * 5 + k) 0 = g := fun g => by funext t; exact if_neg (by omega)
    have e2 : fgG n (lHe L) (c * 5 + k) 0 = lHe L := by funext t; exact if_neg (by omega)
    rw [e1, e1, e2]
    rfl
  | m + 1, L => by
    rw [lForgets, lForgets_eq m L]
    have e1 : ∀ g : Nat → Int64, va_up (fgE g (c * 5 + k) m) (c * 5 + (k + m)) 0 = fgE g (c * 5 + k) (m + 1) := by
      intro g
      funext t
      simp only [fgE, va_up]
      by_cases h1 : c * 5 + k ≤ t ∧ t < c * 5 + k + (m + 1)
      · rw [if_pos h1]
        by_cases h2 : t = c * 5 + (k + m)
        · rw [if_pos h2]
        · rw [if_neg h2, if_pos (by omega)]
      · rw [if_neg h1, if_neg (by omega), if_neg (by omega)]
    have e2 : (fun j => if j / 7 % 35 = c * 5 + (k + m) ∧ j % 7 < n then 0 else fgG n (lHe L) (c * 5 + k) m j) = fgG n (lHe L) (c * 5 + k) (m + 1) := by
      funext t
      unfold fgG
      by_cases h1 : (c * 5 + k ≤ t / 7 % 35 ∧ t / 7 % 35 < c * 5 + k + (m + 1)) ∧ t % 7 < n
      · rw [if_pos h1]
        by_cases h2 : t / 7 % 35 = c * 5 + (k + m) ∧ t % 7 < n
        · rw [if_pos h2]
        · rw [if_neg h2, if_pos (by omega)]
      · rw [if_neg h1, if_neg (by omega), if_neg (by omega)]
    unfold lForget
    show (_, _, _, _, va_up (fgE (lEc L) (c * 5 + k) m) (c * 5 + (k + m)) 0, va_up (fgE (lRe L) (c * 5 + k) m) (c * 5 + (k + m)) 0, _, _, _, (fun j => if j / 7 % 35 = c * 5 + (k + m) ∧ j % 7 < n then 0 else fgG n (lHe L) (c * 5 + k) m j), _, _) = _
    rw [e1, e1, e2]
theorem nFreeC_eq {n c : Nat} {d : Int64} {u : NS} : nFreeC n d c u = (nCo u, nFu u, nSu u, fgA (nSa u) (c * 5 + nFr u c) (digN d c - nFr u c), nCn u, va_up (nFr u) c (max (nFr u c) (digN d c)), nBa u, fgB n (nTo u) (c * 5 + nFr u c) (digN d c - nFr u c), nAc u) := by
  unfold nFreeC
  rw [nForgets_eq]
theorem lFreeC_eq {n v c : Nat} {L : LV} : lFreeC n v c L = (lSt L, lFu L, lSu L, lOw L, fgE (lEc L) (c * 5 + lFr L c) (rDg v c - lFr L c), fgE (lRe L) (c * 5 + lFr L c) (rDg v c - lFr L c), lAp L, va_up (lFr L) c (max (lFr L c) (rDg v c)), lMa L, fgG n (lHe L) (c * 5 + lFr L c) (rDg v c - lFr L c), lHm L, lAc L) := by
  unfold lFreeC
  rw [lForgets_eq]
  rfl
theorem fr_in {fr : Nat → Nat} {c dg i : Nat} (hd : dg ≤ 5) (h : c * 5 + fr c ≤ i ∧ i < c * 5 + fr c + (dg - fr c)) : ¬ va_up fr c (max (fr c) dg) (i / 5) < i % 5 + 1 := by
  have e : i / 5 = c := by omega
  rw [e, up_s]
  omega
theorem fr_out {fr : Nat → Nat} {c dg i : Nat} (hd : dg ≤ 5) (h : ¬ (c * 5 + fr c ≤ i ∧ i < c * 5 + fr c + (dg - fr c))) : va_up fr c (max (fr c) dg) (i / 5) < i % 5 + 1 ↔ fr (i / 5) < i % 5 + 1 := by
  by_cases e : i / 5 = c
  · rw [e, up_s]
    omega
  · rw [up_e e]
theorem sd_free {n v c me k i : Nat} {L : LV} (hd : rDg v c ≤ 5) (hk : k = 0 ∨ k = 1 ∨ k = 2) : lSd0 (lFreeC n v c L) me k i = if c * 5 + lFr L c ≤ i ∧ i < c * 5 + lFr L c + (rDg v c - lFr L c) then 0 else lSd0 L me k i := by
  rw [lFreeC_eq]
  by_cases h : c * 5 + lFr L c ≤ i ∧ i < c * 5 + lFr L c + (rDg v c - lFr L c)
  · have h1 := fr_in (fr := lFr L) hd h
    rw [if_pos h]
    rcases hk with rfl | rfl | rfl
    · rw [sd_0]; exact if_neg h1
    · rw [sd_1]; exact if_neg h1
    · rw [sd_2]; exact if_neg h1
  · have h1 := fr_out (fr := lFr L) hd h
    rw [if_neg h]
    by_cases h2 : lFr L (i / 5) < i % 5 + 1
    · have h3 := h1.mpr h2
      rcases hk with rfl | rfl | rfl
      · rw [sd_0, sd_0, if_pos h2]; exact if_pos h3
      · rw [sd_1, sd_1, if_pos h2]; exact (if_pos h3).trans (if_neg h)
      · rw [sd_2, sd_2, if_pos h2]; exact (if_pos h3).trans (if_neg h)
    · have h3 := fun w => h2 (h1.mp w)
      rcases hk with rfl | rfl | rfl
      · rw [sd_0, sd_0, if_neg h2]; exact if_neg h3
      · rw [sd_1, sd_1, if_neg h2]; exact if_neg h3
      · rw [sd_2, sd_2, if_neg h2]; exact if_neg h3
theorem nr_freeC {n me v c : Nat} {z d : Int64} {u : NS} {L : LV} (hn : n ≤ 7) (h : NR n z me u L) (hc : c < n) (hd : rDg v c ≤ 5) (he : digN d c = rDg v c) : NR n z me (nFreeC n d c u) (lFreeC n v c L) := by
  obtain ⟨hs, hS, ⟨hC, hF, hB⟩, ⟨hT, hM⟩, hA⟩ := h
  have hsd := fun k i (hk : k = 0 ∨ k = 1 ∨ k = 2) => sd_free (n := n) (v := v) (c := c) (me := me) (k := k) (i := i) (L := L) hd hk
  have h3 : ∀ i, lSd0 (lFreeC n v c L) me 3 i = lSd0 L me 3 i := fun i => by rw [sd_3, sd_3, lFreeC_eq]
  have h4 : lSaid (lFreeC n v c L) me 140 = lSaid L me 140 := by rw [said_4, said_4, lFreeC_eq]
  rw [nFreeC_eq, he, hF c hc]
  refine ⟨by rw [lFreeC_eq]; exact hs, fun t ht => ?_, ⟨by rw [lFreeC_eq]; exact hC, fun b hb => ?_, by rw [lFreeC_eq]; exact hB⟩, ⟨fun k i y a1 a2 a3 a4 => ?_, by
    intro y hy
    rw [lFreeC_eq]
    show fgB n (nTo u) (c * 5 + lFr L c) (rDg v c - lFr L c) (980 + y) = _
    unfold fgB
    rw [if_neg (by omega)]
    exact hM y hy⟩, by rw [lFreeC_eq]; exact hA⟩
  · show fgA (nSa u) (c * 5 + lFr L c) (rDg v c - lFr L c) t = _
    unfold fgA
    rw [hS t ht]
    rcases t_cases ht with rfl | ⟨ht1, e⟩
    · rw [if_neg (by omega), h4]
    · rw [said_k ht1, said_k ht1]
      rcases (show (t / 35 = 0 ∨ t / 35 = 1 ∨ t / 35 = 2) ∨ t / 35 = 3 by omega) with e | e
      · rw [hsd _ _ e]
        by_cases h5 : c * 5 + lFr L c ≤ t % 35 ∧ t % 35 < c * 5 + lFr L c + (rDg v c - lFr L c)
        · rw [if_pos ⟨by omega, h5⟩, if_pos h5, m1_0]
        · rw [if_neg (fun w => h5 w.2), if_neg h5]
      · rw [e, h3, if_neg (by omega)]
  · rw [lFreeC_eq]
    show va_up (nFr u) c _ b = va_up (lFr L) c _ b
    by_cases e : b = c
    · rw [e, up_s, up_s]
    · rw [up_e e, up_e e]; exact hF b hb
  · rw [lFreeC_eq]
    show fgB n (nTo u) (c * 5 + lFr L c) (rDg v c - lFr L c) ((k * 35 + i) * 7 + y) = m1 (fgG n (lHe L) (c * 5 + lFr L c) (rDg v c - lFr L c) (lHi k i y))
    unfold fgB fgG lHi
    rw [hT k i y a1 a2 a3 a4, show ((k * 35 + i) * 7 + y) / 7 % 35 = i by omega, show (((k - 1) * 35 + i) * 7 + y) / 7 % 35 = i by omega, show ((k * 35 + i) * 7 + y) / 245 = k by omega, show ((k * 35 + i) * 7 + y) % 7 = y by omega, show (((k - 1) * 35 + i) * 7 + y) % 7 = y by omega]
    by_cases h5 : c * 5 + lFr L c ≤ i ∧ i < c * 5 + lFr L c + (rDg v c - lFr L c)
    · rw [if_pos ⟨⟨a1, by omega, a4⟩, h5⟩, if_pos ⟨h5, a4⟩, m1_0]
    · rw [if_neg (fun w => h5 w.2), if_neg (fun w => h5 w.1)]
theorem fgE_wf {n lo m : Nat} {g : Nat → Int64} (h : iWf n g) : iWf n (fgE g lo m) := by
  intro i hi h0
  unfold fgE at h0 ⊢
  by_cases h1 : lo ≤ i ∧ i < lo + m
  · rw [if_pos h1] at h0; exact absurd rfl h0
  · rw [if_neg h1] at h0 ⊢; exact h i hi h0
theorem fgE_ne {g : Nat → Int64} {lo m i : Nat} (h : fgE g lo m i ≠ 0) : ¬ (lo ≤ i ∧ i < lo + m) ∧ g i ≠ 0 := by
  unfold fgE at h
  by_cases h1 : lo ≤ i ∧ i < lo + m
  · rw [if_pos h1] at h; exact absurd rfl h
  · rw [if_neg h1] at h; exact ⟨h1, h⟩
theorem fgE_0 {g : Nat → Int64} {lo m i : Nat} (h : g i = 0) : fgE g lo m i = 0 := by
  unfold fgE
  split
  · rfl
  · exact h
theorem ni_freeC {n me v c : Nat} {L : LV} (h : NI n me L) (hc : c < n) (hd : rDg v c ≤ lCnt L c) : NI n me (lFreeC n v c L) := by
  obtain ⟨h1, hg, hh, ⟨w1, w2, w3, w4⟩, ho, he, hm, hfr, hk⟩ := h
  have hd5 : rDg v c ≤ 5 := Nat.le_trans hd (lCnt_le L c)
  rw [lFreeC_eq]
  refine ⟨h1, hg, fun i a b => ⟨⟨fgE_0 (hh i a b).1.1, fgE_0 (hh i a b).1.2.1, (hh i a b).1.2.2⟩, fun k y a1 a2 a3 => ?_⟩, ⟨fgE_wf w1, fgE_wf w2, w3, w4⟩, ho, fun j => ?_, hm, fun b hb => ?_, fun i hi h0 => ?_⟩
  · show fgG n (lHe L) _ _ _ = 0
    unfold fgG
    split
    · rfl
    · exact (hh i a b).2 k y a1 a2 a3
  · show fgG n (lHe L) _ _ j ≠ -1
    unfold fgG
    split
    · decide
    · exact he j
  · show va_up (lFr L) c _ b ≤ lCnt L b
    by_cases e : b = c
    · rw [e, up_s]; have := hfr c hc; omega
    · rw [up_e e]; exact hfr b hb
  · have key : ¬ (c * 5 + lFr L c ≤ i ∧ i < c * 5 + lFr L c + (rDg v c - lFr L c)) ∧ lFr L (i / 5) ≤ i % 5 := by
      rcases h0 with h0 | h0
      · exact ⟨(fgE_ne h0).1, hk i hi (Or.inl (fgE_ne h0).2)⟩
      · exact ⟨(fgE_ne h0).1, hk i hi (Or.inr (fgE_ne h0).2)⟩
    have := (fr_out (fr := lFr L) hd5 key.1).mpr (by omega)
    show va_up (lFr L) c _ (i / 5) ≤ i % 5
    omega
theorem sim_freeTo {n me v : Nat} {z d : Int64} {u : NS} {L : LV} (hn : n ≤ 7) (h : NR n z me u L) (hi : NI n me L) : ∀ k, k ≤ n → (∀ b, b < k → rDg v b ≤ lCnt L b ∧ digN d b = rDg v b) → NR n z me (nFreeTo n d k u) (lFreeTo n v k L) ∧ NI n me (lFreeTo n v k L) ∧ lCnt (lFreeTo n v k L) = lCnt L
  | 0, _, _ => ⟨h, hi, rfl⟩
  | k + 1, hk, hd => by
    obtain ⟨i1, i2, i3⟩ := sim_freeTo hn h hi k (by omega) (fun b hb => hd b (by omega))
    have h1 := hd k (by omega)
    refine ⟨nr_freeC hn i1 (by omega) (Nat.le_trans h1.1 (lCnt_le L k)) h1.2, ni_freeC i2 (by omega) (by rw [i3]; exact h1.1), ?_⟩
    rw [lFreeTo, lFreeC_eq]
    exact i3
theorem lN_inj {a b : Nat} (ha : a < 2 ^ 64) (hb : b < 2 ^ 64) : lN a = lN b ↔ a = b := by
  constructor
  · intro h
    have := congrArg pn h
    rw [px_lN ha, px_lN hb] at this
    exact this
  · intro h; rw [h]
theorem lN_prd {a : Nat} (h : 0 < a) : lN a - 1 = lN (a - 1) := by
  obtain ⟨k, rfl⟩ : ∃ k, a = k + 1 := ⟨a - 1, by omega⟩
  rw [← lN_add]
  exact Int64.add_sub_cancel _ _
theorem sub1_eq {x y : Int64} : x - 1 = y - 1 ↔ x = y := by
  constructor
  · intro h; grind
  · intro h; rw [h]
theorem lMa_le {n : Nat} {L : LV} (hn : n ≤ 7) (h : iMk n L) : lMa L ≤ 2097152 := by
  rcases h with h | h
  · omega
  · have : 2 ^ (3 * n) ≤ 2 ^ 21 := Nat.pow_le_pow_right (by decide) (by omega)
    have h1 := h.1
    omega
theorem sim_free {n f me : Nat} {z : Int64} {u : NS} {L : LV} (hn : n ≤ 7) (h : NR n z me u L) (hi : NI n me L) : NR n z me (nFree u n f) (lRel L n f) ∧ NI n me (lRel L n f) := by
  have hm := hi.2.2.2.2.2.2.1
  have hml := lMa_le hn hm
  have h140 : nSa u 140 = lN (lMa L) - 1 := by rw [h.2.1 140 (by omega), said_4]
  unfold nFree lRel
  rcases Nat.eq_zero_or_pos (lMa L) with h0 | h0
  · have hs : lSame L n = 0 := by
      have : lSame L n = cntB (fun _ => false) n := cntB_eq (fun y _ => decide_eq_false (by omega))
      rw [this]
      exact cntB_0 (fun _ => rfl) n
    rw [if_pos (Or.inl (by rw [h140, h0]; decide)), if_pos (by omega)]
    exact ⟨h, hi⟩
  · have hne : ¬ nSa u 140 = -1 := by
      rw [h140, lN_prd h0]
      intro w
      have := congrArg pn w
      rw [px_lN (by omega)] at this
      have h2 : pn (-1) = 18446744073709551615 := by decide
      omega
    have hs : nTellOf u 140 (nSa u 140) n = lSame L n := by
      refine cntB_eq (fun y hy => ?_)
      apply decide_eq_decide.mpr
      rw [show 140 * 7 + y = 980 + y by omega, h.2.2.2.1.2 y hy, h140, sub1_eq, lN_inj (by have := hi.1.2.2 y; omega) (by omega)]
      exact ⟨fun w => ⟨h0, w⟩, fun w => w.2⟩
    rw [hs]
    by_cases h1 : lSame L n < 2 * f + 1
    · rw [if_pos (Or.inr h1), if_pos h1]; exact ⟨h, hi⟩
    · rw [if_neg (fun w => w.elim hne h1), if_neg h1]
      have hmk := hm.resolve_left (by omega)
      have := sim_freeTo (v := lMa L - 1) (d := nSa u 140) hn h hi n (Nat.le_refl _) (fun b hb => ⟨hmk.2 b hb, by
        unfold digN rDg
        rw [h140, lN_prd h0, px_lN (by omega)]⟩)
      exact ⟨this.1, this.2.1⟩
