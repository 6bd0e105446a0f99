/-! What the walks of the outer class rest on -/
theorem isN_f1 {n : Nat} {x : Int32} (h : x < 0) : isN n x = false := by
  simp only [isN, Bool.and_eq_false_iff, decide_eq_false_iff_not]
  exact Or.inl (Int32.not_le.mpr h)
theorem isN_f2 {n : Nat} {x : Int32} (h : nI n ≤ x) : isN n x = false := by
  simp only [isN, Bool.and_eq_false_iff, decide_eq_false_iff_not]
  exact Or.inr (Int32.not_lt.mpr h)
theorem isN_t {n : Nat} {x : Int32} (h1 : ¬ x < 0) (h2 : ¬ nI n ≤ x) : isN n x = true := by
  simp only [isN, Bool.and_eq_true, decide_eq_true_eq]
  exact ⟨Int32.not_lt.mp h1, Int32.not_le.mp h2⟩
theorem eUp_f {n : Nat} {σ : Nat → NS} {x : Int32} (h : isN n x = false) : eUp n σ x = false := by simp [eUp, h]
theorem eCor_f {n : Nat} {σ : Nat → NS} {x : Int32} (h : isN n x = false) : eCor n σ x = false := by simp [eCor, h]
theorem eState_f {n : Nat} {σ : Nat → NS} {x : Int32} (h : isN n x = false) : eState n σ x = -1 := by simp [eState, h]
theorem eUp_N {n : Nat} {σ : Nat → NS} {x : Nat} (hn : n ≤ 7) (hx : x < n) : eUp n σ (nI x) = decide (nCo (σ x) = 0) := by
  rw [eUp, isN_nI hn hx, xN_nI (by omega)]
  rfl
theorem eCor_N {n : Nat} {σ : Nat → NS} {x : Nat} (hn : n ≤ 7) (hx : x < n) : eCor n σ (nI x) = decide (nCo (σ x) ≠ 2) := by
  rw [eCor, isN_nI hn hx, xN_nI (by omega)]
  rfl
theorem eState_N {n : Nat} {σ : Nat → NS} {x : Nat} (hn : n ≤ 7) (hx : x < n) : eState n σ (nI x) = nI (nCo (σ x)) := by
  rw [eState, isN_nI hn hx, xN_nI (by omega)]
  rfl
theorem eUp_of {n : Nat} {σ : Nat → NS} {x : Int32} (hn : n ≤ 7) (h : eUp n σ x = true) : ∃ k, k < n ∧ x = nI k ∧ nCo (σ k) = 0 := by
  have h1 : isN n x = true := by
    cases hb : isN n x with
    | true => rfl
    | false => rw [eUp_f hb] at h; cases h
  obtain ⟨k, hk, rfl⟩ := isN_of hn h1
  rw [eUp_N hn hk] at h
  exact ⟨k, hk, rfl, of_decide_eq_true h⟩
theorem eCor_of {n : Nat} {σ : Nat → NS} {x : Int32} (hn : n ≤ 7) (h : eCor n σ x = true) : ∃ k, k < n ∧ x = nI k ∧ nCo (σ k) ≠ 2 := by
  have h1 : isN n x = true := by
    cases hb : isN n x with
    | true => rfl
    | false => rw [eCor_f hb] at h; cases h
  obtain ⟨k, hk, rfl⟩ := isN_of hn h1
  rw [eCor_N hn hk] at h
  exact ⟨k, hk, rfl, of_decide_eq_true h⟩
theorem eState_of {n : Nat} {σ : Nat → NS} {x : Int32} {c : Nat} (hn : n ≤ 7) (hc : c < 2147483648) (hs : ∀ y, y < n → nCo (σ y) ≤ 2) (h : eState n σ x = nI c) : ∃ k, k < n ∧ x = nI k ∧ nCo (σ k) = c := by
  cases hb : isN n x with
  | false => rw [eState_f hb] at h; exact absurd h.symm (nI_m1 hc)
  | true =>
    obtain ⟨k, hk, rfl⟩ := isN_of hn hb
    rw [eState_N hn hk] at h
    have := hs k hk
    exact ⟨k, hk, rfl, (nI_eq (by omega) hc).mp h⟩
theorem tpc_4t {n : Nat} {k b q : Int32} (h1 : k = 4) (h2 : b = 0) (h3 : q = 0) : tpc n k b q = some 140 := by simp [tpc, h1, h2, h3]
theorem tpc_4a {n : Nat} {k b q : Int32} (h1 : k = 4) (h2 : ¬ b = 0) : tpc n k b q = none := by simp [tpc, h1, h2]
theorem tpc_4b {n : Nat} {k b q : Int32} (h1 : k = 4) (h2 : ¬ q = 0) : tpc n k b q = none := by simp [tpc, h1, h2]
theorem tpc_n {n : Nat} {k b q : Int32} (h1 : ¬ k = 4) (h : k < 0 ∨ 3 < k ∨ isN n b = false ∨ q < 1 ∨ 5 < q) : tpc n k b q = none := by
  rw [tpc, if_neg h1, if_pos h]
theorem tpc_N {n k b q : Nat} (hn : n ≤ 7) (hk : k ≤ 3) (hb : b < n) (h1 : 1 ≤ q) (h5 : q ≤ 5) : tpc n (nI k) (nI b) (nI q) = some ((k * 7 + b) * 5 + q - 1) := by
  have e4 : ¬ nI k = 4 := fun z => by have := (nI_eq (a := k) (b := 4) (by omega) (by omega)).mp z; omega
  rw [tpc, if_neg e4, if_neg, xN_nI (by omega), xN_nI (by omega), xN_nI (by omega)]
  rintro (h | h | h | h | h)
  · exact nI_pos (by omega) h
  · have := (nI_ltI (a := 3) (b := k) (by omega) (by omega)).mp h; omega
  · rw [isN_nI hn hb] at h; cases h
  · have := (nI_ltI (a := q) (b := 1) (by omega) (by omega)).mp h; omega
  · have := (nI_ltI (a := 5) (b := q) (by omega) (by omega)).mp h; omega
/-- where there is a topic, its kind, account and number are small -/
theorem tpc_of {n t : Nat} {k b q : Int32} (hn : n ≤ 7) (h : tpc n k b q = some t) : (t = 140 ∧ k = 4 ∧ b = 0 ∧ q = 0) ∨ ∃ k' b' q', k' ≤ 3 ∧ b' < n ∧ 1 ≤ q' ∧ q' ≤ 5 ∧ k = nI k' ∧ b = nI b' ∧ q = nI q' ∧ t = (k' * 7 + b') * 5 + q' - 1 := by
  by_cases h4 : k = 4
  · left
    rw [tpc, if_pos h4] at h
    split at h
    · rename_i hh
      cases h
      exact ⟨rfl, h4, hh.1, hh.2⟩
    · cases h
  · right
    rw [tpc, if_neg h4] at h
    split at h
    · cases h
    · rename_i hh
      have hk0 : ¬ k < 0 := fun z => hh (Or.inl z)
      have hk3 : ¬ 3 < k := fun z => hh (Or.inr (Or.inl z))
      have hb : isN n b = true := by
        cases hb : isN n b with
        | true => rfl
        | false => exact absurd (Or.inr (Or.inr (Or.inl hb))) hh
      have hq1 : ¬ q < 1 := fun z => hh (Or.inr (Or.inr (Or.inr (Or.inl z))))
      have hq5 : ¬ 5 < q := fun z => hh (Or.inr (Or.inr (Or.inr (Or.inr z))))
      obtain ⟨k', hk', rfl⟩ := nI_of2 (M := 3) (n := 3) (by decide) hk0 (Int32.not_lt.mp hk3)
      obtain ⟨b', hb', rfl⟩ := isN_of hn hb
      have hq0 : ¬ q < 0 := fun z => hq1 (by rw [Int32.lt_iff_toInt_lt] at z ⊢; have e0 : (0 : Int32).toInt = 0 := by decide
                                             have e1 : (1 : Int32).toInt = 1 := by decide
                                             omega)
      obtain ⟨q', hq', rfl⟩ := nI_of2 (M := 5) (n := 5) (by decide) hq0 (Int32.not_lt.mp hq5)
      have hq1' : 1 ≤ q' := by
        rcases Nat.lt_or_ge q' 1 with z | z
        · exact absurd ((nI_ltI (a := q') (b := 1) (by omega) (by omega)).mpr z) hq1
        · exact z
      refine ⟨k', b', q', hk', hb', hq1', hq', rfl, rfl, rfl, ?_⟩
      rw [xN_nI (by omega), xN_nI (by omega), xN_nI (by omega)] at h
      exact (Option.some.inj h).symm
theorem tpc_lt {n t : Nat} {k b q : Int32} (hn : n ≤ 7) (h : tpc n k b q = some t) : t < 141 := by
  rcases tpc_of hn h with ⟨h, -⟩ | ⟨k', b', q', h1, h2, h3, h4, -, -, -, h5⟩
  · omega
  · omega
theorem msk_lt (P : Nat → Bool) : ∀ k, msk P k < 2 ^ k
  | 0 => Nat.zero_lt_one
  | k + 1 => by
    have := msk_lt P k
    simp only [msk]
    rw [Nat.pow_succ]
    split <;> omega
theorem msk_128 (P : Nat → Bool) {n : Nat} (hn : n ≤ 7) : msk P n < 128 := Nat.lt_of_lt_of_le (msk_lt P n) (show 2 ^ n ≤ 2 ^ 7 from Nat.pow_le_pow_right (by decide) hn)
theorem msk_bit (P : Nat → Bool) : ∀ (k i : Nat), msk P k / 2 ^ i % 2 = if i < k ∧ P i = true then 1 else 0
  | 0, i => by simp [msk]
  | k + 1, i => by
    have ih := msk_bit P k i
    have hl := msk_lt P k
    simp only [msk]
    rcases Nat.lt_trichotomy i k with h | h | h
    · have e : (if P k = true then 2 ^ k else 0) = 2 ^ i * (if P k = true then 2 ^ (k - i) else 0) := by
        split
        · rw [← Nat.pow_add, show i + (k - i) = k by omega]
        · rfl
      rw [e, Nat.add_mul_div_left _ _ (Nat.two_pow_pos i)]
      have e2 : (if P k = true then 2 ^ (k - i) else 0) % 2 = 0 := by
        split
        · rw [show k - i = (k - i - 1) + 1 by omega, Nat.pow_succ]; omega
        · rfl
      rw [Nat.add_mod, e2, ih]
      have h3 : (i < k + 1 ∧ P i = true) ↔ (i < k ∧ P i = true) := by constructor <;> intro ⟨a, b⟩ <;> exact ⟨by omega, b⟩
      simp only [h3]
      split <;> rfl
    · subst h
      by_cases hp : P i = true
      · rw [if_pos hp, Nat.add_div_right _ (Nat.two_pow_pos i), Nat.div_eq_of_lt hl, if_pos ⟨by omega, hp⟩]
      · rw [if_neg hp, Nat.add_zero, Nat.div_eq_of_lt hl, if_neg (fun z => hp z.2)]
    · have h2 : msk P k + (if P k = true then 2 ^ k else 0) < 2 ^ i := by
        have := msk_lt P (k + 1)
        simp only [msk] at this
        exact Nat.lt_of_lt_of_le this (Nat.pow_le_pow_right (by decide) (by omega))
      rw [Nat.div_eq_of_lt h2, if_neg (by omega)]
theorem msk_or (P : Nat → Bool) {i : Nat} (hi : i < 7) : nI (msk P i) ||| nI (1 * 2 ^ i) = nI (msk P i + 2 ^ i) := by
  have hl := msk_lt P i
  have h7 : 2 ^ i ≤ 2 ^ 6 := Nat.pow_le_pow_right (by decide) (by omega)
  apply Int32.toBitVec_inj.mp
  apply BitVec.eq_of_toNat_eq
  rw [Int32.toBitVec_or, BitVec.toNat_or, pk_tn (by omega), pk_tn (by omega), pk_tn (by omega), Nat.one_mul, Nat.or_comm, ← Nat.mul_one (2 ^ i), ← Nat.two_pow_add_eq_or_of_lt (by omega)]
  omega
/-- the JDK's way to count the ones of an int -/
def bcI (x : Int32) : Int32 :=
  let a := x - ((x.toUInt32 >>> ((nI 1).toUInt32 &&& Int32.toUInt32 31)).toInt32 &&& 1431655765)
  let b := (a &&& 858993459) + ((a.toUInt32 >>> ((nI 2).toUInt32 &&& Int32.toUInt32 31)).toInt32 &&& 858993459)
  let d := (b + (b.toUInt32 >>> ((nI 4).toUInt32 &&& Int32.toUInt32 31)).toInt32) &&& 252645135
  let e := d + (d.toUInt32 >>> ((nI 8).toUInt32 &&& Int32.toUInt32 31)).toInt32
  let g := e + (e.toUInt32 >>> ((nI 16).toUInt32 &&& Int32.toUInt32 31)).toInt32
  g &&& nI 63
theorem bcI_7 : ∀ k : Fin 128, bcI (nI k.val) = nI (cntB (fun i => decide (k.val / 2 ^ i % 2 = 1)) 7) := by decide +kernel
theorem cntB_le7 {P : Nat → Bool} {n : Nat} (hn : n ≤ 7) : cntB (fun i => decide (msk P n / 2 ^ i % 2 = 1)) 7 = cntB P n := by
  have e : (fun i => decide (msk P n / 2 ^ i % 2 = 1)) = (fun i => decide (i < n) && P i) := by
    funext i
    rw [msk_bit]
    by_cases h1 : i < n <;> by_cases h2 : P i = true <;> simp [h1, h2]
  rw [e]
  have key : ∀ m, n ≤ m → cntB (fun i => decide (i < n) && P i) m = cntB P n := by
    intro m hm
    have low : ∀ k, k ≤ n → cntB (fun i => decide (i < n) && P i) k = cntB P k := by
      intro k
      induction k with
      | zero => intro _; rfl
      | succ k ih => intro hk; simp [cntB, ih (by omega), show k < n by omega]
    induction m with
    | zero => rw [show n = 0 by omega]; rfl
    | succ m ih =>
      by_cases h : n = m + 1
      · rw [h]; exact h ▸ low n (Nat.le_refl _)
      · simp [cntB, ih (by omega), show ¬ m < n by omega]
  exact key 7 hn
theorem bc_tak {P : Nat → Bool} {n : Nat} (hn : n ≤ 7) : bcI (nI (msk P n)) = nI (cntB P n) := by
  have := bcI_7 ⟨msk P n, msk_128 P hn⟩
  rw [this, cntB_le7 hn]
