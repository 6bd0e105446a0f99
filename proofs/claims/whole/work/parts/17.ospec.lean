/-! What the outer class's methods answer and do -/
def eSent (n : Nat) (σ : Nat → NS) (x k b q : Int32) : Int64 := if eCor n σ x = true then (match tpc n k b q with | some t => nSa (σ (xN x)) t | none => -1) else -1
def eHeard (n : Nat) (σ : Nat → NS) (x k b q : Int32) : Int32 := if eCor n σ x = true ∧ ¬ k = 0 then (match tpc n k b q with | some t => nI (nTell (σ (xN x)) t n) | none => -1) else -1
def eAcc (n : Nat) (σ : Nat → NS) (x b q : Int32) : Int64 := if eCor n σ x = true then (match tpc n 3 b q with | some t => nAc (σ (xN x)) (t % 35) | none => -1) else -1
def eApd (n : Nat) (σ : Nat → NS) (x b : Int32) : Int32 := if eCor n σ x = true ∧ isN n b = true then nI (nCn (σ (xN x)) (xN b)) else -1
def eBal (n : Nat) (σ : Nat → NS) (x b : Int32) : Int64 := if eCor n σ x = true ∧ isN n b = true then nBa (σ (xN x)) (xN b) else -1
def eFrd (n : Nat) (σ : Nat → NS) (x b : Int32) : Int32 := if eCor n σ x = true ∧ isN n b = true then nI (nFr (σ (xN x)) (xN b)) else -1
def eKept (n : Nat) (σ : Nat → NS) (x : Int32) : Int32 := if eCor n σ x = true then nI (nKept (σ (xN x)) n) else -1
theorem msk_0 {P : Nat → Bool} (h : ∀ x, P x = false) : ∀ n, msk P n = 0
  | 0 => rfl
  | n + 1 => by simp [msk, msk_0 h n, h n]
theorem msk_t {P : Nat → Bool} {i : Nat} (h : P i = true) : msk P (i + 1) = msk P i + 2 ^ i := by simp [msk, h]
theorem msk_f {P : Nat → Bool} {i : Nat} (h : P i = false) : msk P (i + 1) = msk P i := by simp [msk, h]
theorem eTak_0a {n : Nat} {σ : Nat → NS} {t y : Nat} (h : nSa (σ y) t = -1) : eTak n σ t y = 0 := msk_0 (fun x => by simp [ePd, h]) n
theorem eTak_0b {n : Nat} {σ : Nat → NS} {t y : Nat} (h : nCo (σ y) = 2) : eTak n σ t y = 0 := msk_0 (fun x => by simp [ePd, h]) n
theorem fstB_first {P : Nat → Bool} {N m : Nat} (h0 : ∀ k, k < m → P k = false) (h1 : P m = true) (hm : m < N) : fstB P N 0 = m := by
  have key : ∀ i, i ≤ m → fstB P (N - i) i = fstB P N 0 := by
    intro i
    induction i with
    | zero => intro _; rfl
    | succ i ih => intro hi; rw [← fstB_f (by omega) (h0 i (by omega)), ih (by omega)]
  rw [← key m (Nat.le_refl _), fstB_t hm h1]
theorem fstB_none {P : Nat → Bool} {N : Nat} (h0 : ∀ k, k < N → P k = false) : fstB P N 0 = N := by
  have key : ∀ i, i ≤ N → fstB P (N - i) i = fstB P N 0 := by
    intro i
    induction i with
    | zero => intro _; rfl
    | succ i ih => intro hi; rw [← fstB_f (by omega) (h0 i (by omega)), ih (by omega)]
  rw [← key N (Nat.le_refl _), fstB_e (Nat.le_refl _)]
theorem ePm_at {n : Nat} {σ : Nat → NS} {t y x : Nat} (hy : y < 7) (hx : x < 7) : ePm n σ ((t * 7 + y) * 7 + x) = (decide (y < n) && (decide (x < n) && ePd σ t y x)) := by
  unfold ePm
  rw [show ((t * 7 + y) * 7 + x) / 7 % 7 = y by omega, show ((t * 7 + y) * 7 + x) % 7 = x by omega, show ((t * 7 + y) * 7 + x) / 49 = t by omega]
theorem ePm_y {n : Nat} {σ : Nat → NS} {t : Nat} (h : ∀ k, k < (t * 7 + n) * 7 → ePm n σ k = false) : ∀ k, k < (t + 1) * 49 → ePm n σ k = false := by
  intro k hk
  rcases Nat.lt_or_ge k ((t * 7 + n) * 7) with h1 | h1
  · exact h k h1
  · have : ¬ k / 7 % 7 < n := by omega
    simp [ePm, this]
theorem ePm_x {n : Nat} {σ : Nat → NS} {t y : Nat} (h : ∀ k, k < (t * 7 + y) * 7 + n → ePm n σ k = false) : ∀ k, k < (t * 7 + (y + 1)) * 7 → ePm n σ k = false := by
  intro k hk
  rcases Nat.lt_or_ge k ((t * 7 + y) * 7 + n) with h1 | h1
  · exact h k h1
  · have : ¬ k % 7 < n := by omega
    simp [ePm, this]
theorem ePm_0 {n : Nat} {σ : Nat → NS} {t y x : Nat} (hn : n ≤ 7) (hy : y < 7) (h : ∀ k, k < (t * 7 + y) * 7 + x → ePm n σ k = false) (h0 : eTak n σ t y = 0) : ∀ k, k < (t * 7 + (y + 1)) * 7 → ePm n σ k = false := by
  refine ePm_x (fun k hk => ?_)
  rcases Nat.lt_or_ge k ((t * 7 + y) * 7) with h1 | h1
  · exact h k (by omega)
  · have e : k = (t * 7 + y) * 7 + (k - (t * 7 + y) * 7) := by omega
    rw [e, ePm_at hy (by omega)]
    have hb := msk_bit (ePd σ t y) n (k - (t * 7 + y) * 7)
    have h0' : msk (ePd σ t y) n = 0 := h0
    rw [h0', Nat.zero_div] at hb
    have hlt : k - (t * 7 + y) * 7 < n := by omega
    cases hp : ePd σ t y (k - (t * 7 + y) * 7) with
    | false => simp
    | true => rw [if_pos ⟨hlt, hp⟩] at hb; simp at hb
theorem ePm_s {n : Nat} {σ : Nat → NS} {t y x : Nat} (hy : y < 7) (hx : x < n) (hn : n ≤ 7) (h : ∀ k, k < (t * 7 + y) * 7 + x → ePm n σ k = false) (h0 : eTak n σ t y / 2 ^ x % 2 ≠ 1) : ∀ k, k < (t * 7 + y) * 7 + (x + 1) → ePm n σ k = false := by
  intro k hk
  rcases Nat.lt_or_ge k ((t * 7 + y) * 7 + x) with h1 | h1
  · exact h k h1
  · have e : k = (t * 7 + y) * 7 + x := by omega
    rw [e, ePm_at hy (by omega)]
    have hb := msk_bit (ePd σ t y) n x
    have h0' : ¬ msk (ePd σ t y) n / 2 ^ x % 2 = 1 := h0
    cases hp : ePd σ t y x with
    | false => simp
    | true => rw [if_pos ⟨hx, hp⟩] at hb; exact absurd hb h0'
theorem eFst_at {n : Nat} {σ : Nat → NS} {t y x : Nat} (ht : t < 141) (hy : y < n) (hx : x < n) (hn : n ≤ 7) (h : ∀ k, k < (t * 7 + y) * 7 + x → ePm n σ k = false) (h0 : eTak n σ t y / 2 ^ x % 2 = 1) : eFst n σ = (t * 7 + y) * 7 + x := by
  refine fstB_first h ?_ (by omega)
  rw [ePm_at (by omega) (by omega)]
  have hb := msk_bit (ePd σ t y) n x
  have h0' : msk (ePd σ t y) n / 2 ^ x % 2 = 1 := h0
  rw [h0'] at hb
  by_cases hp : x < n ∧ ePd σ t y x = true
  · simp [hy, hx, hp.2]
  · rw [if_neg hp] at hb; cases hb
theorem and_1 {k : Nat} (h : k < 2 ^ 32) : nI k &&& nI 1 = nI (k % 2) := pk_andN h 1 (by decide)
