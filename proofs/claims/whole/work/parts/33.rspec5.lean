/-! The reference: heard, kept, submit -/
def rHd0 (S : RS) (n x k b q : Nat) : Nat := cntB (fun y => decide (rHe S (((x * 3 + k - 1) * 35 + b * 5 + q - 1) * 7 + y) ≠ 0)) n
def rHm0 (S : RS) (n x : Nat) : Nat := cntB (fun y => decide (0 < rHm S (7 * x + y))) n
def rHeard (S : RS) (n : Nat) (x k b q : Int32) : Int32 :=
  if rCor S n x = true then (match tpc n k b q with | some t => (if t = 140 then nI (rHm0 S n (xN x)) else if t / 35 = 0 then -1 else nI (rHd0 S n (xN x) (t / 35) (t % 35 / 5) (t % 5 + 1))) | none => -1) else -1
theorem rHeard_n {S : RS} {n : Nat} {x k b q : Int32} (h : tpc n k b q = none) : rHeard S n x k b q = -1 := by
  rw [rHeard]
  split
  · rw [h]
  · rfl
theorem rHeard_c {S : RS} {n : Nat} {x k b q : Int32} (h : rCor S n x = false) : rHeard S n x k b q = -1 := by rw [rHeard, if_neg (by rw [h]; decide)]
theorem rHeard_lo {S : RS} {n : Nat} {x k b q : Int32} (hn : n ≤ 7) (h : k < 1) : rHeard S n x k b q = -1 := by
  cases hT : tpc n k b q with
  | none => exact rHeard_n hT
  | some t =>
    rw [rHeard]
    split
    · rw [hT]
      rcases tpc_of hn hT with ⟨-, h1, -⟩ | ⟨k', b', q', h1, h2, h3, h4, rfl, h6, h7, h8⟩
      · rw [h1] at h; exact absurd h (by decide)
      · have := (nI_ltI (a := k') (b := 1) (by omega) (by omega)).mp h
        show (if t = 140 then _ else if t / 35 = 0 then _ else _) = _
        rw [if_neg (by omega), if_pos (by omega)]
    · rfl
theorem rHeard_4 {S : RS} {n x : Nat} {k b q : Int32} (hx : x < 7) (hc : rCor S n (nI x) = true) (h1 : k = 4) (h2 : b = 0) (h3 : q = 0) : rHeard S n (nI x) k b q = nI (rHm0 S n x) := by
  rw [rHeard, if_pos hc, tpc_4t h1 h2 h3, xN_nI (by omega)]
  rfl
theorem rHeard_k {S : RS} {n x k b q : Nat} (hn : n ≤ 7) (hx : x < 7) (hc : rCor S n (nI x) = true) (h1 : 1 ≤ k) (hk : k ≤ 3) (hb : b < n) (hq1 : 1 ≤ q) (hq5 : q ≤ 5) : rHeard S n (nI x) (nI k) (nI b) (nI q) = nI (rHd0 S n x k b q) := by
  obtain ⟨e1, e2, e3⟩ := kbq (k := k) (b := b) (q := q) (by omega) hq1 hq5
  rw [rHeard, if_pos hc, tpc_N hn hk hb hq1 hq5, xN_nI (by omega)]
  show (if (k * 7 + b) * 5 + q - 1 = 140 then _ else if ((k * 7 + b) * 5 + q - 1) / 35 = 0 then _ else _) = _
  rw [if_neg (by omega), if_neg (by omega), e1, e2, e3]
theorem kbq1 {n : Nat} {k b q : Int32} (hn : n ≤ 7) (h1 : ¬ k < 1) (h3 : ¬ 3 < k) (h : isIn n b q = true) : ∃ k' b' q', 1 ≤ k' ∧ k' ≤ 3 ∧ b' < n ∧ 1 ≤ q' ∧ q' ≤ 5 ∧ k = nI k' ∧ b = nI b' ∧ q = nI q' := by
  obtain ⟨b', q', hb', hq1, hq5, rfl, rfl⟩ := isIn_of hn h
  obtain ⟨k', hk', rfl⟩ := nI_of2 (M := 3) (n := 3) (by decide) (fun z => h1 (Int32.lt_of_lt_of_le z (by decide))) (Int32.not_lt.mp h3)
  refine ⟨k', b', q', ?_, hk', hb', hq1, hq5, rfl, rfl, rfl⟩
  rcases Nat.lt_or_ge k' 1 with z | z
  · exact absurd ((nI_ltI (a := k') (b := 1) (by omega) (by omega)).mpr z) h1
  · exact z
def rEars (S : RS) (n x b j : Nat) : Nat → Nat := sumN (fun k => rHd0 S n x (k + 1) b (j + 1))
def rKpt (S : RS) (n x b j : Nat) : Bool := decide (0 < rEars S n x b j 3) || (decide (rEc S ((x * 7 + b) * 5 + (j + 1) - 1) ≠ 0) || decide (rRe S ((x * 7 + b) * 5 + (j + 1) - 1) ≠ 0))
def rKept (S : RS) (n : Nat) (x : Int32) : Int32 := if rCor S n x = true then nI (sumN (fun b => cntB (rKpt S n (xN x) b) 5) n) else -1
theorem rEars_le (S : RS) (n x b j : Nat) : ∀ e, rEars S n x b j e ≤ e * n
  | 0 => by simp [rEars, sumN]
  | e + 1 => by
    have h1 := rEars_le S n x b j e
    have h2 : rHd0 S n x (e + 1) b (j + 1) ≤ n := cntB_le _ _
    show rEars S n x b j e + rHd0 S n x (e + 1) b (j + 1) ≤ (e + 1) * n
    rw [Nat.succ_mul]
    omega
def rLeft (S : RS) (n x : Nat) (z : Int64) (k : Nat) : Nat → Int64
  | 0 => rWo (rAp S) x x z n
  | m + 1 => rLeft S n x z k m - lN (amtN (rOw S (5 * x + (k + m))))
def rSpend (S : RS) (n x : Nat) (z : Int64) : Int64 := rLeft S n x z (rCnt S x x) (rSu S x - rCnt S x x)
def rLp (S : RS) (x c : Nat) : Nat → Nat
  | 0 => 0
  | j + 1 => if rAp S ((x * 7 + c) * 5 + j) ≠ 0 ∧ payN (rAp S ((x * 7 + c) * 5 + j)) = x then j + 1 else rLp S x c j
def rNd (S : RS) (x c : Nat) : Nat := if c = x then 0 else rLp S x c 5
theorem rLp_le (S : RS) (x c : Nat) : ∀ j, rLp S x c j ≤ j
  | 0 => Nat.le_refl _
  | j + 1 => by
    simp only [rLp]
    split
    · exact Nat.le_refl _
    · have := rLp_le S x c j; omega
theorem rNd_lt (S : RS) (x c : Nat) : rNd S x c < 8 := by
  unfold rNd
  split
  · omega
  · have := rLp_le S x c 5; omega
def rUpOw (S : RS) (x : Nat) (p : Int64) : RS := (rSt S, rFu S, va_up (rSu S) x (rSu S x + 1), va_up (rOw S) (5 * x + rSu S x) p, S.2.2.2.2)
def rPap (S : RS) (n x y a : Nat) : Int64 := lN (y + 8 * a + 8192 * digs (rNd S x) n)
def rSubN (S : RS) (n x y a : Nat) (z : Int64) : Int32 × RS :=
  if rSu S x = 5 then (-8, S)
  else if rSpend S n x z < lN a then (-9, S)
  else if rFu S x = 1 then (-7, rFall S x)
  else (nI (rSu S x + 1), rUpOw (rBurn S x) x (rPap S n x y a))
def rSubmit (S : RS) (n : Nat) (z : Int64) (x y a : Int32) : Int32 × RS :=
  if rUp S n x = true ∧ isN n y = true ∧ ¬ y = x ∧ ¬ a < nI 1 ∧ a ≤ nI 1023 then rSubN S n (xN x) (xN y) (xN a) z else (-1, S)
theorem pap_0 {y a : Nat} (hy : y < 7) (ha : a ≤ 1023) : (nI y).toInt64 + 8 * (nI a).toInt64 = lN (y + 8 * a) := by
  rw [nI_l (by omega), nI_l (by omega), show (8 : Int64) = lN 8 from rfl, lN_mul, lN_add]
theorem pap_s {v t c : Nat} (hc : c < 7) : lN v + lN t <<< ((nI (13 + 3 * c)).toInt64 &&& 63) = lN (v + 8192 * (t * 2 ^ (3 * c))) := by
  rw [px_shl (by omega), lN_add]
  congr 1
  rw [Nat.pow_add, Nat.mul_left_comm]
theorem digs_s {f : Nat → Nat} {v i t : Nat} (h : f i = t) : v + 8192 * digs f i + 8192 * (t * 2 ^ (3 * i)) = v + 8192 * digs f (i + 1) := by
  simp only [digs, h]
  omega
theorem rKpt_1 {S : RS} {n x b j : Nat} (h : 0 < rEars S n x b j 3) : rKpt S n x b j = true := by rw [rKpt, decide_eq_true h, Bool.true_or]
theorem rKpt_2 {S : RS} {n x b j : Nat} (h : ¬ rEc S ((x * 7 + b) * 5 + (j + 1) - 1) = 0) : rKpt S n x b j = true := by
  rw [rKpt, show decide (rEc S ((x * 7 + b) * 5 + (j + 1) - 1) ≠ 0) = true from decide_eq_true h, Bool.true_or, Bool.or_true]
theorem rKpt_3 {S : RS} {n x b j : Nat} (h : ¬ rRe S ((x * 7 + b) * 5 + (j + 1) - 1) = 0) : rKpt S n x b j = true := by
  rw [rKpt, show decide (rRe S ((x * 7 + b) * 5 + (j + 1) - 1) ≠ 0) = true from decide_eq_true h, Bool.or_true, Bool.or_true]
theorem rKpt_0 {S : RS} {n x b j : Nat} (h1 : rEars S n x b j 3 ≤ 0) (h2 : rEc S ((x * 7 + b) * 5 + (j + 1) - 1) = 0) (h3 : rRe S ((x * 7 + b) * 5 + (j + 1) - 1) = 0) : rKpt S n x b j = false := by
  rw [rKpt, decide_eq_false (by omega), show decide (rEc S ((x * 7 + b) * 5 + (j + 1) - 1) ≠ 0) = false from decide_eq_false (fun z => z h2), show decide (rRe S ((x * 7 + b) * 5 + (j + 1) - 1) ≠ 0) = false from decide_eq_false (fun z => z h3)]
  rfl
