/-! What is kept: class against reference -/
theorem cntB_add {P : Nat → Bool} {a : Nat} : ∀ k, cntB P (a + k) = cntB P a + cntB (fun j => P (a + j)) k
  | 0 => rfl
  | k + 1 => by rw [← Nat.add_assoc, cntB, cntB_add k, cntB, Nat.add_assoc]
theorem cnt_rows {P : Nat → Bool} : ∀ m, cntB P (m * 5) = sumN (fun b => cntB (fun j => P (b * 5 + j)) 5) m
  | 0 => by simp [cntB, sumN]
  | m + 1 => by rw [show (m + 1) * 5 = m * 5 + 5 by omega, cntB_add, cnt_rows m, sumN]
theorem sa_ec2 {n me i : Nat} {z : Int64} {u : NS} {L : LV} (hn : n ≤ 7) (h : NR n z me u L) (hI : NI n me L) (hi : i < 35) : nSa u (35 + i) = -1 ↔ lEc L i = 0 := by
  by_cases hf : lFr L (i / 5) < i % 5 + 1
  · exact sa_ec hn h hI hi hf
  · rw [h.2.1 _ (by omega), said_k (by omega), show (35 + i) / 35 = 1 by omega, show (35 + i) % 35 = i by omega, sd_1, if_neg hf]
    refine ⟨fun _ => ?_, fun _ => rfl⟩
    apply Classical.byContradiction
    intro w
    have := hI.2.2.2.2.2.2.2.2 i hi (Or.inl w)
    omega
theorem sa_re2 {n me i : Nat} {z : Int64} {u : NS} {L : LV} (hn : n ≤ 7) (h : NR n z me u L) (hI : NI n me L) (hi : i < 35) : nSa u (70 + i) = -1 ↔ lRe L i = 0 := by
  by_cases hf : lFr L (i / 5) < i % 5 + 1
  · exact sa_re hn h hI hi hf
  · rw [h.2.1 _ (by omega), said_k (by omega), show (70 + i) / 35 = 2 by omega, show (70 + i) % 35 = i by omega, sd_2, if_neg hf]
    refine ⟨fun _ => ?_, fun _ => rfl⟩
    apply Classical.byContradiction
    intro w
    have := hI.2.2.2.2.2.2.2.2 i hi (Or.inr w)
    omega
theorem tell_0 {n me k i : Nat} {z : Int64} {u : NS} {L : LV} (h : NR n z me u L) (hk : 1 ≤ k) (hk3 : k ≤ 3) (hi : i < 35) (h0 : ∀ y, y < n → lHe L (lHi k i y) = 0) : nTell u (k * 35 + i) n = 0 := by
  have : nTell u (k * 35 + i) n = cntB (fun _ => false) n := cntB_eq (fun y hy => by
    rw [h.2.2.2.1.1 k i y hk hk3 hi hy, h0 y hy]
    rfl)
  rw [this]
  exact cntB_0 (fun _ => rfl) n
theorem sim_kept {n f fa : Nat} {z : Int64} {σ : Nat → NS} {S : RS} (x : Int32) (h : Sim n f z fa σ S) : eKept n σ x = rKept S n x := by
  have hn := h.1.2.1
  unfold eKept rKept
  rw [sim_cor_eq h]
  by_cases hc : rCor S n x = true
  · rw [if_pos hc, if_pos hc]
    obtain ⟨x', hx, rfl, -⟩ := rCor_of hn hc
    rw [xN_nI (by omega)]
    obtain ⟨-, hR, hI⟩ := h.2.2.1 x' hx
    congr 1
    unfold nKept
    have e35 : cntB (nKeep (σ x') n) 35 = cntB (nKeep (σ x') n) (n * 5) := by
      rw [show 35 = n * 5 + (35 - n * 5) by omega, cntB_add]
      have : cntB (fun j => nKeep (σ x') n (n * 5 + j)) (35 - n * 5) = cntB (fun _ => false) (35 - n * 5) := cntB_eq (fun j hj => by
        have hi : n * 5 + j < 35 := by omega
        obtain ⟨⟨g1, g2, -⟩, g3⟩ := hI.2.2.1 (n * 5 + j) (by omega) hi
        unfold nKeep
        have t1 := tell_0 (k := 1) hR (by omega) (by omega) hi (fun y hy => g3 1 y (by omega) (by omega) hy)
        have t2 := tell_0 (k := 2) hR (by omega) (by omega) hi (fun y hy => g3 2 y (by omega) (by omega) hy)
        have t3 := tell_0 (k := 3) hR (by omega) (by omega) hi (fun y hy => g3 3 y (by omega) (by omega) hy)
        rw [if_neg (fun w => w.elim (fun a => a ((sa_ec2 hn hR hI hi).mpr g1)) (fun a => a ((sa_re2 hn hR hI hi).mpr g2))), show 35 + (n * 5 + j) = 1 * 35 + (n * 5 + j) by omega, show 70 + (n * 5 + j) = 2 * 35 + (n * 5 + j) by omega, show 105 + (n * 5 + j) = 3 * 35 + (n * 5 + j) by omega, t1, t2, t3]
        rfl)
      rw [this, cntB_0 (fun _ => rfl)]
      rfl
    rw [e35, cnt_rows]
    refine sumN_eq (fun b hb => cntB_eq (fun j hj => ?_))
    have hi : b * 5 + j < 35 := by omega
    have t1 := tell_k (k := 1) (i := 35 + (b * 5 + j)) (b := b) (q := j + 1) hn hR hI (by omega) (by omega) (by omega) (by omega) (by omega) (by omega)
    have t2 := tell_k (k := 2) (i := 70 + (b * 5 + j)) (b := b) (q := j + 1) hn hR hI (by omega) (by omega) (by omega) (by omega) (by omega) (by omega)
    have t3 := tell_k (k := 3) (i := 105 + (b * 5 + j)) (b := b) (q := j + 1) hn hR hI (by omega) (by omega) (by omega) (by omega) (by omega) (by omega)
    have s1 := sa_ec2 hn hR hI hi
    have s2 := sa_re2 hn hR hI hi
    have eE : rEars S n x' b j 3 = rHd0 S n x' 1 b (j + 1) + rHd0 S n x' 2 b (j + 1) + rHd0 S n x' 3 b (j + 1) := by
      show 0 + rHd0 S n x' 1 b (j + 1) + rHd0 S n x' 2 b (j + 1) + rHd0 S n x' 3 b (j + 1) = _
      omega
    unfold nKeep rKpt
    rw [t1, t2, t3, eE, bq_ix (by omega), show b * 5 + (j + 1) - 1 = b * 5 + j by omega, ← rv_ec hi, ← rv_re hi]
    by_cases h1 : lEc (rv S x') (b * 5 + j) = 0
    · by_cases h2 : lRe (rv S x') (b * 5 + j) = 0
      · rw [if_neg (fun w => w.elim (fun a => a (s1.mpr h1)) (fun a => a (s2.mpr h2))), decide_eq_false (show ¬ lEc (rv S x') (b * 5 + j) ≠ 0 from fun w => w h1), decide_eq_false (show ¬ lRe (rv S x') (b * 5 + j) ≠ 0 from fun w => w h2), Bool.or_false, Bool.or_false]
        generalize rHd0 S n x' 1 b (j + 1) = A
        generalize rHd0 S n x' 2 b (j + 1) = B
        generalize rHd0 S n x' 3 b (j + 1) = C
        rw [← Bool.decide_or, ← Bool.decide_or]
        apply decide_eq_decide.mpr
        omega
      · rw [if_pos (Or.inr (fun w => h2 (s2.mp w))), decide_eq_true h2, Bool.or_true, Bool.or_true]
    · rw [if_pos (Or.inl (fun w => h1 (s1.mp w))), decide_eq_true h1, Bool.true_or, Bool.or_true]
  · rw [if_neg hc, if_neg hc]
