/-! What the walks of Node's larger methods rest on -/
theorem nI_m1 {k : Nat} (h : k < 2147483648) : ¬ nI k = -1 := by
  intro e
  have h1 := nI_toInt (n := k) h
  rw [e] at h1
  have h2 : (-1 : Int32).toInt = -1 := by decide
  rw [h2] at h1
  omega
theorem nVal_ok {u : NS} {n b : Nat} {p : Int64} (h1 : ¬ p = -1) (h2 : lN (amtN p) ≤ nBa u b) : nVal u n b p = allB (fun c => decide (needN p c ≤ nCn u c)) n :=
  if_neg (fun h => h.elim h1 (fun h => Int64.not_lt.mpr h2 h))
theorem nVal_no {u : NS} {n b : Nat} {p : Int64} (h2 : ¬ lN (amtN p) ≤ nBa u b) : nVal u n b p = false := if_pos (Or.inr (Int64.not_le.mp h2))
theorem nVal_ne {u : NS} {n b : Nat} {p : Int64} (h : nVal u n b p = true) : ¬ p = -1 := by
  intro e
  rw [show nVal u n b p = false from if_pos (Or.inl e)] at h
  cases h
theorem fstB_f {P : Nat → Bool} {n i : Nat} (hi : i < n) (h : P i = false) : fstB P (n - i) i = fstB P (n - (i + 1)) (i + 1) := by
  obtain ⟨k, hk⟩ : ∃ k, n - i = k + 1 := ⟨n - i - 1, by omega⟩
  rw [hk, show n - (i + 1) = k by omega]
  simp [fstB, h]
theorem fstB_t {P : Nat → Bool} {n i : Nat} (hi : i < n) (h : P i = true) : fstB P (n - i) i = i := by
  obtain ⟨k, hk⟩ : ∃ k, n - i = k + 1 := ⟨n - i - 1, by omega⟩
  rw [hk]
  simp [fstB, h]
theorem fstB_e {P : Nat → Bool} {n i : Nat} (hi : n ≤ i) : fstB P (n - i) i = i := by
  rw [show n - i = 0 by omega]
  rfl
theorem fstB_le {P : Nat → Bool} : ∀ (k i : Nat), fstB P k i ≤ i + k
  | 0, i => Nat.le_refl _
  | k + 1, i => by
    simp only [fstB]
    split
    · omega
    · have := fstB_le (P := P) k (i + 1); omega
theorem fstB_sat {P : Nat → Bool} : ∀ (k i : Nat), fstB P k i ≠ i + k → P (fstB P k i) = true
  | 0, i => fun h => absurd rfl h
  | k + 1, i => by
    simp only [fstB]
    split
    · rename_i h; intro _; exact h
    · intro h; exact fstB_sat k (i + 1) (by omega)
theorem nLeast_lt {u : NS} {n : Nat} (h : ¬ nLeast u n = n) : nLeast u n < n := by
  have := fstB_le (P := nNext u n) n 0
  unfold nLeast at h ⊢
  omega
theorem nLeast_sat {u : NS} {n : Nat} (h : ¬ nLeast u n = n) : nNext u n (nLeast u n) = true := fstB_sat n 0 (by unfold nLeast at h; omega)
theorem nNext_cn {u : NS} {n c : Nat} (h : nNext u n c = true) : nCn u c < 5 := by
  simp only [nNext, Bool.and_eq_true, decide_eq_true_eq] at h
  exact h.1
theorem nNext_ac {u : NS} {n c : Nat} (h : nNext u n c = true) : ¬ nAc u (c * 5 + nCn u c) = -1 := by
  simp only [nNext, Bool.and_eq_true, decide_eq_true_eq] at h
  exact nVal_ne h.2
theorem nWr_t {u : NS} {t : Nat} {p : Int64} (h : nWrB u = true) : nWr u t p = sSa (sFu u (nFu u - 1)) (va_up (nSa u) t p) := if_neg (by simpa [nWrB] using h)
theorem nWr_f {u : NS} {t : Nat} {p : Int64} (h : nWrB u = false) : nWr u t p = nDown u := if_pos (by simpa [nWrB] using h)
theorem nWrB_t {u : NS} (h : nWrB u = true) : ¬ nFu u = 1 := by simpa [nWrB] using h
theorem nWrB_f {u : NS} (h : nWrB u = false) : nFu u = 1 := by simpa [nWrB] using h
/-- the node after one more paper is applied -/
def nStep (u : NS) (n : Nat) : NS := sAc (nPay (nWr u (105 + (nLeast u n * 5 + nCn u (nLeast u n))) (nAc u (nLeast u n * 5 + nCn u (nLeast u n)))) (nLeast u n) (nAc u (nLeast u n * 5 + nCn u (nLeast u n)))) (va_up (nAc u) (nLeast u n * 5 + nCn u (nLeast u n)) (-1))
theorem nApply_end {n k i : Nat} {u : NS} (h : nLeast u n = n) : nApply n k i u = (nI i, u) := by
  cases k with
  | zero => rfl
  | succ k => simp [nApply, h]
theorem nApply_fall {n k i : Nat} {u : NS} (hk : 0 < k) (h : ¬ nLeast u n = n) (h1 : nFu u = 1) : nApply n k i u = (-7, nDown u) := by
  obtain ⟨k, rfl⟩ : ∃ j, k = j + 1 := ⟨k - 1, by omega⟩
  simp [nApply, h, h1]
theorem nApply_step {n k i : Nat} {u : NS} (hk : i < k) (h : ¬ nLeast u n = n) (h1 : ¬ nFu u = 1) : nApply n (k - i) i u = nApply n (k - (i + 1)) (i + 1) (nStep u n) := by
  obtain ⟨j, hj⟩ : ∃ j, k - i = j + 1 := ⟨k - i - 1, by omega⟩
  rw [hj, show k - (i + 1) = j by omega]
  simp [nApply, h, h1, nStep]
theorem max_nI {x y : Nat} (hx : x < 2147483648) (hy : y < 2147483648) : (if nI x < nI y then nI y else nI x) = nI (max x y) := by
  by_cases h : x < y
  · rw [if_pos ((nI_ltI hx hy).mpr h), Nat.max_eq_right (by omega)]
  · rw [if_neg (fun z => h ((nI_ltI hx hy).mp z)), Nat.max_eq_left (by omega)]
theorem fgS_0 (u : NS) (i : Nat) : fgS u i 0 = nSa u := by
  funext t
  exact if_neg (by omega)
theorem fgS_up {u : NS} {i k : Nat} (hi : i < 35) : va_up (fgS u i k) (k * 35 + i) (-1) = fgS u i (k + 1) := by
  funext t
  unfold va_up fgS
  by_cases h : t = k * 35 + i
  · rw [if_pos h, if_pos (by omega)]
  · rw [if_neg h]
    by_cases h2 : t % 35 = i ∧ t / 35 < k
    · rw [if_pos h2, if_pos (by omega)]
    · rw [if_neg h2, if_neg (by omega)]
theorem fgT_0 (u : NS) (n i : Nat) : fgT u n i 1 0 = nTo u := by
  funext t
  exact if_neg (by omega)
theorem fgT_up {u : NS} {n i k y : Nat} (hi : i < 35) (hy : y < 7) (hk : 1 ≤ k) : va_up (fgT u n i k y) ((k * 35 + i) * 7 + y) (-1) = fgT u n i k (y + 1) := by
  funext t
  unfold va_up fgT
  by_cases h : t = (k * 35 + i) * 7 + y
  · rw [if_pos h, if_pos (by omega)]
  · rw [if_neg h]
    by_cases h2 : t / 7 % 35 = i ∧ 1 ≤ t / 245 ∧ (t / 245 < k ∧ t % 7 < n ∨ t / 245 = k ∧ t % 7 < y)
    · rw [if_pos h2, if_pos (by omega)]
    · rw [if_neg h2, if_neg (by omega)]
theorem fgT_row (u : NS) (n i k : Nat) : fgT u n i k n = fgT u n i (k + 1) 0 := by
  funext t
  unfold fgT
  by_cases h2 : t / 7 % 35 = i ∧ 1 ≤ t / 245 ∧ (t / 245 < k ∧ t % 7 < n ∨ t / 245 = k ∧ t % 7 < n)
  · rw [if_pos h2, if_pos (by omega)]
  · rw [if_neg h2, if_neg (by omega)]
theorem nForgets_fr {n c k : Nat} : ∀ (m : Nat) (u : NS), nFr (nForgets n c k m u) = nFr u
  | 0, _ => rfl
  | m + 1, u => nForgets_fr m u
theorem nOk_forgets {n c k : Nat} : ∀ (m : Nat) {u : NS}, nOk u → nOk (nForgets n c k m u)
  | 0, _, h => h
  | m + 1, _, h => nOk_forgets (n := n) (c := c) (k := k) m h
theorem nOk_freeC {n c : Nat} {d : Int64} {u : NS} (h : nOk u) (hd : digN d c ≤ 5) : nOk (nFreeC n d c u) := by
  have h2 := nOk_forgets (n := n) (c := c) (k := nFr u c) (digN d c - nFr u c) h
  refine ⟨h2.1, h2.2.1, h2.2.2.1, h2.2.2.2.1, fun b => ?_⟩
  show va_up _ c _ b ≤ 5
  unfold va_up
  split
  · have := h.2.2.2.2 c; omega
  · exact h2.2.2.2.2 b
theorem nOk_freeTo {n : Nat} {d : Int64} {u : NS} (h : nOk u) : ∀ k, (∀ c, c < k → digN d c ≤ 5) → nOk (nFreeTo n d k u)
  | 0, _ => h
  | k + 1, hd => nOk_freeC (nOk_freeTo h k (fun c hc => hd c (by omega))) (hd k (by omega))
theorem nLast_pos {u : NS} {me c t : Nat} (ht : 1 ≤ t) : nLast u me c t = if payN (nSa u (105 + c * 5 + (t - 1))) = me then t else nLast u me c (t - 1) := by
  obtain ⟨k, rfl⟩ : ∃ k, t = k + 1 := ⟨t - 1, by omega⟩
  rfl
theorem nLast_le (u : NS) (me c : Nat) : ∀ t, nLast u me c t ≤ t
  | 0 => Nat.le_refl _
  | t + 1 => by
    simp only [nLast]
    split
    · exact Nat.le_refl _
    · have := nLast_le u me c t; omega
theorem digs_lt {f : Nat → Nat} (hf : ∀ c, f c < 8) : ∀ n, digs f n < 2 ^ (3 * n)
  | 0 => Nat.zero_lt_one
  | n + 1 => by
    have h1 := digs_lt hf n
    have h2 := hf n
    have h3 : 2 ^ (3 * (n + 1)) = 8 * 2 ^ (3 * n) := by rw [show 3 * (n + 1) = 3 * n + 3 by omega, Nat.pow_add]; omega
    have h4 : f n * 2 ^ (3 * n) ≤ 7 * 2 ^ (3 * n) := Nat.mul_le_mul_right _ (by omega)
    simp only [digs]
    omega
theorem digs_or {f : Nat → Nat} (hf : ∀ c, f c < 8) {i : Nat} (hi : i < 7) : lN (digs f i) ||| (nI (f i)).toInt64 <<< ((nI (3 * i)).toInt64 &&& 63) = lN (digs f (i + 1)) := by
  have h1 := digs_lt hf i
  have h2 := digs_lt hf (i + 1)
  have h3 : 2 ^ (3 * (i + 1)) ≤ 2 ^ 21 := Nat.pow_le_pow_right (by decide) (by omega)
  have h4 := hf i
  simp only [digs] at h2 ⊢
  rw [nI_l (by omega), px_shl (by omega), px_or h1 (by omega)]
theorem digs_21 {f : Nat → Nat} (hf : ∀ c, f c < 8) {n : Nat} (hn : n ≤ 7) : digs f n < 2097152 :=
  Nat.lt_of_lt_of_le (digs_lt hf n) (show 2 ^ (3 * n) ≤ 2 ^ 21 from Nat.pow_le_pow_right (by decide) (by omega))
theorem nMark_lt {u : NS} (hcn : ∀ c, nCn u c ≤ 5) {n : Nat} (hn : n ≤ 7) : nMark u n < 2097152 := digs_21 (fun c => by have := hcn c; omega) hn
theorem nNeeds_lt {u : NS} (hcn : ∀ c, nCn u c ≤ 5) (me : Nat) {n : Nat} (hn : n ≤ 7) : nNeeds u me n < 2097152 := digs_21 (fun c => by have := hcn c; have := nLast_le u me c (nCn u c); omega) hn
theorem lN_0 : (0 : Int64) = lN 0 := rfl
theorem lN_toI {n : Nat} : (lN n).toInt32 = nI n := lN_i n
theorem nOk_step {u : NS} {n : Nat} (h : nOk u) (hL : ¬ nLeast u n = n) (h1 : ¬ nFu u = 1) : nOk (nStep u n) := by
  obtain ⟨h2, h3, h4, h5, h6⟩ := h
  have hc := nNext_cn (nLeast_sat hL)
  unfold nStep nWr
  rw [if_neg h1]
  refine ⟨h2, ?_, h4, fun c => ?_, h6⟩
  · show nFu u - 1 ≤ 9
    omega
  · show va_up (nCn u) (nLeast u n) (nCn u (nLeast u n) + 1) c ≤ 5
    unfold va_up
    split
    · omega
    · exact h5 c
theorem nAc_step {u : NS} {n m : Nat} (h : ∀ j, j < 35 → nAc u j ≠ -1 → payN (nAc u j) < m) (h1 : ¬ nFu u = 1) : ∀ j, j < 35 → nAc (nStep u n) j ≠ -1 → payN (nAc (nStep u n) j) < m := by
  intro j hj
  show va_up (nAc u) _ (-1) j ≠ -1 → payN (va_up (nAc u) _ (-1) j) < m
  unfold va_up
  split
  · intro z; exact absurd rfl z
  · exact h j hj
theorem nWf_pay {t n : Nat} {p : Int64} (h : nWf t p n = true) : t = 140 ∨ payN p < n := by
  unfold nWf at h
  split at h
  · rename_i h1; exact Or.inl h1
  · right
    simp only [wfP, Bool.and_eq_true, decide_eq_true_eq] at h
    exact h.1
theorem nTake_0 {u : NS} {n f t y : Nat} {p : Int64} (h : t / 35 = 0) : nTake u n f t y p = (if nFu u = 1 then -7 else 0, nWr u (35 + t % 35) p) := by
  unfold nTake
  rw [if_pos h]
theorem nTake_4 {u v : NS} {n f t y : Nat} {p : Int64} (hv : v = sTo u (va_up (nTo u) (t * 7 + y) p)) (h : t / 35 = 4) : nTake u n f t y p = (0, nFree v n f) := by
  subst hv
  unfold nTake
  rw [if_neg (by omega)]
  simp only [h, if_true]
theorem nTake_7 {u v : NS} {n f t y : Nat} {p : Int64} (hv : v = sTo u (va_up (nTo u) (t * 7 + y) p)) (h0 : t / 35 ≠ 0) (h4 : t / 35 ≠ 4) (hr : nRdy v n f (t / 35) (t % 35) p = true) (h1 : nFu v = 1) : nTake u n f t y p = (-7, nDown v) := by
  subst hv
  unfold nTake
  rw [if_neg h0]
  simp only [if_neg h4]
  rw [if_pos ⟨hr, h1⟩]
theorem nTake_3 {u v z : NS} {n f t y : Nat} {p : Int64} (hv : v = sTo u (va_up (nTo u) (t * 7 + y) p)) (h0 : t / 35 ≠ 0) (h4 : t / 35 ≠ 4) (hz : nRdy v n f (t / 35) (t % 35) p = true ∧ ¬ nFu v = 1 ∧ z = nWr v (70 + t % 35) p ∨ nRdy v n f (t / 35) (t % 35) p = false ∧ z = v) : nTake u n f t y p = nApply n 35 0 (if nAcq z n f (t % 35) p = true then sAc z (va_up (nAc z) (t % 35) p) else z) := by
  subst hv
  unfold nTake
  rw [if_neg h0]
  simp only [if_neg h4]
  rcases hz with ⟨hr, h1, rfl⟩ | ⟨hr, rfl⟩
  · rw [if_neg (fun h => h1 h.2)]
    simp only [hr, if_true]
  · rw [if_neg (fun h => by rw [hr] at h; cases h.1)]
    simp only [hr, Bool.false_eq_true, if_false]
theorem nOk_wr {u : NS} {t : Nat} {p : Int64} (h : nOk u) : nOk (nWr u t p) := by
  obtain ⟨h2, h3, h4, h5, h6⟩ := h
  unfold nWr
  split
  · exact ⟨by show 1 ≤ 2; omega, by show 0 ≤ 9; omega, h4, h5, h6⟩
  · exact ⟨h2, by show nFu u - 1 ≤ 9; omega, h4, h5, h6⟩
theorem nAc_wr {u : NS} {t : Nat} {p : Int64} (h : ¬ nFu u = 1) : nAc (nWr u t p) = nAc u := by
  unfold nWr
  rw [if_neg h]
theorem nAc_up {g : Nat → Int64} {i n : Nat} {p : Int64} (h : ∀ j, j < 35 → g j ≠ -1 → payN (g j) < n) (hp : payN p < n) : ∀ j, j < 35 → va_up g i p j ≠ -1 → payN (va_up g i p j) < n := by
  intro j hj
  unfold va_up
  split
  · intro _; exact hp
  · exact h j hj
