/-! The reference: what is pending, and its small methods -/
def tA (t : Nat) : Nat := if t = 140 then 0 else t % 35 / 5
def tQ (t : Nat) : Nat := if t = 140 then 0 else t % 5 + 1
theorem tA_lt {t : Nat} : tA t < 7 := by unfold tA; split <;> omega
theorem tQ_lt {t : Nat} : tQ t < 6 := by unfold tQ; split <;> omega
theorem tpc_t {n t : Nat} (hn : n ≤ 7) (ht : t < 141) : tpc n (nI (t / 35)) (nI (tA t)) (nI (tQ t)) = if t = 140 ∨ t % 35 / 5 < n then some t else none := by
  by_cases h : t = 140
  · subst h
    rw [if_pos (Or.inl rfl)]
    exact tpc_4t rfl rfl rfl
  · have eA : tA t = t % 35 / 5 := if_neg h
    have eQ : tQ t = t % 5 + 1 := if_neg h
    rw [eA, eQ]
    by_cases hb : t % 35 / 5 < n
    · rw [if_pos (Or.inr hb), tpc_N hn (by omega) hb (by omega) (by omega)]
      congr 1
      omega
    · rw [if_neg (fun z => z.elim h hb)]
      refine tpc_n (fun z => ?_) (Or.inr (Or.inr (Or.inl (isN_f2 ((nI_leI (by omega) (by omega)).mpr (by omega))))))
      have := (nI_eq (a := t / 35) (b := 4) (by omega) (by omega)).mp z
      omega
abbrev rSd (S : RS) (n y t : Nat) : Int64 := rSaidC S n y (nI (t / 35)) (nI (tA t)) (nI (tQ t))
abbrev rOb (S : RS) (n x y t : Nat) (p : Int64) : Int32 := rObjC S n x y (nI (t / 35)) (nI (tA t)) (nI (tQ t)) p
def rPd (S : RS) (n t y x : Nat) : Bool := decide (rSt S y ≠ 2) && (decide (¬ rSd S n y t < 0) && (rUp S n (nI x) && decide (rOb S n x y t (rSd S n y t) = 0)))
theorem rPd_t {S : RS} {n t y x : Nat} (h1 : rSt S y ≠ 2) (h2 : 0 ≤ rSd S n y t) (h3 : rUp S n (nI x) = true) (h4 : rOb S n x y t (rSd S n y t) = 0) : rPd S n t y x = true := by
  have h2' : ¬ rSd S n y t < 0 := Int64.not_lt.mpr h2
  simp [rPd, h1, h2', h3, h4]
theorem rPd_f1 {S : RS} {n t y x : Nat} (h3 : rUp S n (nI x) = false) : rPd S n t y x = false := by simp [rPd, h3]
theorem rPd_f2 {S : RS} {n t y x : Nat} (h4 : ¬ rOb S n x y t (rSd S n y t) = 0) : rPd S n t y x = false := by simp [rPd, h4]
theorem rPd_a {S : RS} {n t y : Nat} (h : rSt S y = 2) (x : Nat) : rPd S n t y x = false := by simp [rPd, h]
theorem rPd_b {S : RS} {n t y : Nat} (h : ¬ 0 ≤ rSd S n y t) (x : Nat) : rPd S n t y x = false := by
  have h2 : rSd S n y t < 0 := Int64.not_le.mp h
  simp [rPd, h2]
theorem cntB_0 {P : Nat → Bool} (h : ∀ x, P x = false) : ∀ n, cntB P n = 0
  | 0 => rfl
  | n + 1 => by rw [cntB_f (h n), cntB_0 h n]
theorem fstB_0 {P : Nat → Bool} (h : ∀ x, P x = false) (n : Nat) : fstB P n 0 = n := fstB_none (fun k _ => h k)
def rPend (S : RS) (n : Nat) : Nat := sumN (fun t => sumN (fun y => cntB (rPd S n t y) n) n) 141
def rCrash (S : RS) (n : Nat) (x : Int32) : Bool × RS := if rUp S n x = true then (true, rFall S (xN x)) else (false, S)
def rUpSt (S : RS) (x v : Nat) : RS := (va_up (rSt S) x v, S.2)
def rUpFu (S : RS) (x v : Nat) : RS := (rSt S, va_up (rFu S) x v, S.2.2)
def rUpMa (S : RS) (x v : Nat) : RS := (rSt S, rFu S, rSu S, rOw S, rEc S, rRe S, rAp S, rFr S, va_up (rMa S) x v, rHe S, rHm S, rAc S)
def rRest (S : RS) (n : Nat) (x : Int32) : Bool × RS := if rCor S n x = true ∧ rSt S (xN x) = 1 then (true, rUpSt S (xN x) 0) else (false, S)
def rFuse (S : RS) (n : Nat) (x k : Int32) : Bool × RS := if rUp S n x = true ∧ ¬ k < 0 ∧ k ≤ nI 9 then (true, rUpFu S (xN x) (xN k)) else (false, S)
def rFa (S : RS) (n : Nat) : Nat := cntB (fun y => decide (rSt S y = 2)) n
def rCorrupt (S : RS) (n f : Nat) (x : Int32) : Bool × RS := if rCor S n x = true ∧ ¬ rFa S n = f then (true, rUpSt S (xN x) 2) else (false, S)
def rMk (S : RS) (n x : Nat) : Nat := digs (rCnt S x) n
def rMark (S : RS) (n : Nat) (x : Int32) : Int32 × RS :=
  if rUp S n x = true then (if rFu S (xN x) = 1 then (-7, rFall S (xN x)) else (nI (rMk S n (xN x)), rUpMa (rBurn S (xN x)) (xN x) (rMk S n (xN x) + 1))) else (-1, S)
def rSent (S : RS) (n : Nat) (x k b q : Int32) : Int64 := if rCor S n x = true then rSaidC S n (xN x) k b q else -1
def rAcd (S : RS) (n : Nat) (x b q : Int32) : Int64 := if rCor S n x = true ∧ isIn n b q = true ∧ ¬ rAc S ((xN x * 7 + xN b) * 5 + xN q - 1) = 0 then rAc S ((xN x * 7 + xN b) * 5 + xN q - 1) else -1
def rApd (S : RS) (n : Nat) (x b : Int32) : Int32 := if rCor S n x = true ∧ isN n b = true then nI (rCnt S (xN x) (xN b)) else -1
def rBal (S : RS) (n : Nat) (z : Int64) (x b : Int32) : Int64 := if rCor S n x = true ∧ isN n b = true then rWo (rAp S) (xN x) (xN b) z n else -1
def rFrd (S : RS) (n : Nat) (x b : Int32) : Int32 := if rCor S n x = true ∧ isN n b = true then nI (rFr S (7 * xN x + xN b)) else -1
theorem digs_add {f : Nat → Nat} (hf : ∀ c, f c < 8) {i : Nat} (hi : i < 7) : digs f i + f i * 2 ^ (3 * i) = digs f (i + 1) := rfl
theorem rMk_lt (S : RS) {n : Nat} (hn : n ≤ 7) (x : Nat) : rMk S n x < 2097152 := digs_21 (fun c => by have := rCnt_le S x c; omega) hn
theorem pow_3 {i v : Nat} (hi : i < 7) (hv : v ≤ 5) : v * 2 ^ (3 * i) < 2 ^ 32 := by
  have h : 2 ^ (3 * i) ≤ 2 ^ 18 := Nat.pow_le_pow_right (by decide) (by omega)
  have : v * 2 ^ (3 * i) ≤ 5 * 2 ^ 18 := Nat.mul_le_mul hv h
  omega
