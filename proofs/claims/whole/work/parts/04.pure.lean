/-! Pure words: papers, counting, one node of the class -/
def pn (p : Int64) : Nat := p.toBitVec.toNat
def payN (p : Int64) : Nat := pn p % 8
def amtN (p : Int64) : Nat := pn p / 8 % 1024
def needN (p : Int64) (c : Nat) : Nat := pn p / 2 ^ (13 + 3 * c) % 8
def digN (d : Int64) (c : Nat) : Nat := pn d / 2 ^ (3 * c) % 8
def cntB (P : Nat → Bool) : Nat → Nat
  | 0 => 0
  | k + 1 => cntB P k + (if P k = true then 1 else 0)
def allB (P : Nat → Bool) : Nat → Bool
  | 0 => true
  | k + 1 => allB P k && P k
/-- the least place from i on, k places looked at, where P holds; i + k where there is none -/
def fstB (P : Nat → Bool) : Nat → Nat → Nat
  | 0, i => i
  | k + 1, i => if P i = true then i else fstB P k (i + 1)
theorem cntB_le (P : Nat → Bool) : ∀ n, cntB P n ≤ n
  | 0 => Nat.le_refl _
  | n + 1 => by have := cntB_le P n; simp only [cntB]; split <;> omega
theorem cntB_t {P : Nat → Bool} {i : Nat} (h : P i = true) : cntB P (i + 1) = cntB P i + 1 := by simp only [cntB, h, if_true]
theorem cntB_f {P : Nat → Bool} {i : Nat} (h : P i = false) : cntB P (i + 1) = cntB P i := by simp [cntB, h]
theorem allB_iff {P : Nat → Bool} : ∀ {n : Nat}, allB P n = true ↔ ∀ c, c < n → P c = true
  | 0 => by simp [allB]
  | n + 1 => by
    rw [allB, Bool.and_eq_true, allB_iff]
    constructor
    · intro ⟨h1, h2⟩ c hc
      by_cases h : c = n
      · rw [h]; exact h2
      · exact h1 c (by omega)
    · intro h
      exact ⟨fun c hc => h c (by omega), h n (by omega)⟩
theorem allB_f {P : Nat → Bool} {n c : Nat} (hc : c < n) (h : P c = false) : allB P n = false := by
  cases hb : allB P n with
  | false => rfl
  | true => rw [allB_iff.mp hb c hc] at h; cases h
theorem payN_lt (p : Int64) : payN p < 8 := Nat.mod_lt _ (by decide)
theorem amtN_lt (p : Int64) : amtN p < 1024 := Nat.mod_lt _ (by decide)
theorem needN_lt (p : Int64) (c : Nat) : needN p c < 8 := Nat.mod_lt _ (by decide)
theorem digN_lt (p : Int64) (c : Nat) : digN p c < 8 := Nat.mod_lt _ (by decide)
def isMk (d : Int64) (n : Nat) : Bool := decide (pn d < 2 ^ (3 * n)) && allB (fun c => decide (digN d c ≤ 5)) n
def wfP (p : Int64) (a n : Nat) : Bool := decide (payN p < n) && (decide (payN p ≠ a) && (decide (amtN p ≠ 0) && (decide (needN p a = 0) && (decide (pn p < 2 ^ (13 + 3 * n)) && allB (fun c => decide (needN p c ≤ 5)) n))))
/-- a node: condition, fuseLeft, submissions, said, appliedCount, freedCount, balances, told, acceptedPapers -/
abbrev NS : Type := Nat × Nat × Nat × (Nat → Int64) × (Nat → Nat) × (Nat → Nat) × (Nat → Int64) × (Nat → Int64) × (Nat → Int64)
abbrev nCo (u : NS) : Nat := u.1
abbrev nFu (u : NS) : Nat := u.2.1
abbrev nSu (u : NS) : Nat := u.2.2.1
abbrev nSa (u : NS) : Nat → Int64 := u.2.2.2.1
abbrev nCn (u : NS) : Nat → Nat := u.2.2.2.2.1
abbrev nFr (u : NS) : Nat → Nat := u.2.2.2.2.2.1
abbrev nBa (u : NS) : Nat → Int64 := u.2.2.2.2.2.2.1
abbrev nTo (u : NS) : Nat → Int64 := u.2.2.2.2.2.2.2.1
abbrev nAc (u : NS) : Nat → Int64 := u.2.2.2.2.2.2.2.2
abbrev sCo (u : NS) (x : Nat) : NS := (x, u.2)
abbrev sFu (u : NS) (x : Nat) : NS := (u.1, x, u.2.2)
abbrev sSu (u : NS) (x : Nat) : NS := (u.1, u.2.1, x, u.2.2.2)
abbrev sSa (u : NS) (x : Nat → Int64) : NS := (u.1, u.2.1, u.2.2.1, x, u.2.2.2.2)
abbrev sCn (u : NS) (x : Nat → Nat) : NS := (u.1, u.2.1, u.2.2.1, u.2.2.2.1, x, u.2.2.2.2.2)
abbrev sFr (u : NS) (x : Nat → Nat) : NS := (u.1, u.2.1, u.2.2.1, u.2.2.2.1, u.2.2.2.2.1, x, u.2.2.2.2.2.2)
abbrev sBa (u : NS) (x : Nat → Int64) : NS := (u.1, u.2.1, u.2.2.1, u.2.2.2.1, u.2.2.2.2.1, u.2.2.2.2.2.1, x, u.2.2.2.2.2.2.2)
abbrev sTo (u : NS) (x : Nat → Int64) : NS := (u.1, u.2.1, u.2.2.1, u.2.2.2.1, u.2.2.2.2.1, u.2.2.2.2.2.1, u.2.2.2.2.2.2.1, x, u.2.2.2.2.2.2.2.2)
abbrev sAc (u : NS) (x : Nat → Int64) : NS := (u.1, u.2.1, u.2.2.1, u.2.2.2.1, u.2.2.2.2.1, u.2.2.2.2.2.1, u.2.2.2.2.2.2.1, u.2.2.2.2.2.2.2.1, x)
/-- what a node's numbers are within, for its methods to go through -/
def nOk (u : NS) : Prop := nCo u ≤ 2 ∧ nFu u ≤ 9 ∧ nSu u ≤ 5 ∧ (∀ c, nCn u c ≤ 5) ∧ (∀ c, nFr u c ≤ 5)
def nInv (n : Nat) (u : NS) : Prop := nOk u ∧ (∀ i, i < 35 → nAc u i ≠ -1 → payN (nAc u i) < n) ∧ (nSa u 140 = -1 ∨ ∀ c, c < n → digN (nSa u 140) c ≤ 5)
def nDown (u : NS) : NS := (1, 0, nSu u, nSa u, nCn u, nFr u, nBa u, fun _ => -1, fun _ => -1)
def nWr (u : NS) (t : Nat) (p : Int64) : NS := if nFu u = 1 then nDown u else sSa (sFu u (nFu u - 1)) (va_up (nSa u) t p)
def nWrB (u : NS) : Bool := decide (nFu u ≠ 1)
def nObj (u : NS) (t y : Nat) (p : Int64) : Int32 :=
  if t / 35 = 4 then (if nTo u (t * 7 + y) = p then -6 else 0)
  else if t / 35 = 0 ∧ y ≠ t % 35 / 5 then -4
  else if t % 5 + 1 ≤ nFr u (t % 35 / 5) then -5
  else if (if t / 35 = 0 then nSa u (35 + t % 35) else nTo u (t * 7 + y)) = -1 then 0 else -6
def nTell (u : NS) (t n : Nat) : Nat := cntB (fun y => decide (nTo u (t * 7 + y) ≠ -1)) n
def nTellOf (u : NS) (t : Nat) (p : Int64) (n : Nat) : Nat := cntB (fun y => decide (nTo u (t * 7 + y) = p)) n
def nWf (t : Nat) (p : Int64) (n : Nat) : Bool := if t = 140 then isMk p n else wfP p (t % 35 / 5) n
def nRdy (u : NS) (n f k i : Nat) (p : Int64) : Bool :=
  if nSa u (70 + i) ≠ -1 then false
  else if k = 1 then decide ((n + f) / 2 + 1 ≤ nTellOf u (35 + i) p n)
  else decide (k = 2) && decide (f + 1 ≤ nTellOf u (70 + i) p n)
def nAcq (u : NS) (n f i : Nat) (p : Int64) : Bool :=
  if i % 5 + 1 ≤ nCn u (i % 35 / 5) ∨ nAc u i ≠ -1 then false
  else decide (2 * f + 1 ≤ nTellOf u (70 + i) p n) || decide (f + 1 ≤ nTellOf u (105 + i) p n)
def nVal (u : NS) (n a : Nat) (p : Int64) : Bool :=
  if p = -1 ∨ nBa u a < lN (amtN p) then false else allB (fun c => decide (needN p c ≤ nCn u c)) n
def nNext (u : NS) (n c : Nat) : Bool := decide (nCn u c < 5) && nVal u n c (nAc u (c * 5 + nCn u c))
def nLeast (u : NS) (n : Nat) : Nat := fstB (nNext u n) n 0
def nPay (u : NS) (a : Nat) (p : Int64) : NS :=
  sBa (sCn u (va_up (nCn u) a (nCn u a + 1))) (va_up (va_up (nBa u) a (nBa u a - lN (amtN p))) (payN p) (va_up (nBa u) a (nBa u a - lN (amtN p)) (payN p) + lN (amtN p)))
def nApply (n : Nat) : Nat → Nat → NS → Int32 × NS
  | 0, k, u => (nI k, u)
  | m + 1, k, u =>
    if nLeast u n = n then (nI k, u)
    else if nFu u = 1 then (-7, nDown u)
    else nApply n m (k + 1) (sAc (nPay (nWr u (105 + (nLeast u n * 5 + nCn u (nLeast u n))) (nAc u (nLeast u n * 5 + nCn u (nLeast u n)))) (nLeast u n) (nAc u (nLeast u n * 5 + nCn u (nLeast u n)))) (va_up (nAc u) (nLeast u n * 5 + nCn u (nLeast u n)) (-1)))
def fgS (u : NS) (i k : Nat) : Nat → Int64 := fun t => if t % 35 = i ∧ t / 35 < k then -1 else nSa u t
def fgT (u : NS) (n i k y : Nat) : Nat → Int64 := fun j => if j / 7 % 35 = i ∧ 1 ≤ j / 245 ∧ (j / 245 < k ∧ j % 7 < n ∨ j / 245 = k ∧ j % 7 < y) then -1 else nTo u j
def nForget (u : NS) (n i : Nat) : NS := sTo (sSa u (fgS u i 3)) (fgT u n i 4 0)
/-- instances c * 5 + s, s from k on, m of them, are forgotten -/
def nForgets (n c k : Nat) : Nat → NS → NS
  | 0, u => u
  | m + 1, u => nForget (nForgets n c k m u) n (c * 5 + (k + m))
def nFreeC (n : Nat) (d : Int64) (c : Nat) (u : NS) : NS :=
  sFr (nForgets n c (nFr u c) (digN d c - nFr u c) u) (va_up (nFr (nForgets n c (nFr u c) (digN d c - nFr u c) u)) c (max (nFr u c) (digN d c)))
def nFreeTo (n : Nat) (d : Int64) : Nat → NS → NS
  | 0, u => u
  | k + 1, u => nFreeC n d k (nFreeTo n d k u)
def nFree (u : NS) (n f : Nat) : NS := if nSa u 140 = -1 ∨ nTellOf u 140 (nSa u 140) n < 2 * f + 1 then u else nFreeTo n (nSa u 140) n u
def nTake (u : NS) (n f t y : Nat) (p : Int64) : Int32 × NS :=
  if t / 35 = 0 then (if nFu u = 1 then -7 else 0, nWr u (35 + t % 35) p)
  else
    let v := sTo u (va_up (nTo u) (t * 7 + y) p)
    if t / 35 = 4 then (0, nFree v n f)
    else if nRdy v n f (t / 35) (t % 35) p = true ∧ nFu v = 1 then (-7, nDown v)
    else
      let z := if nRdy v n f (t / 35) (t % 35) p = true then nWr v (70 + t % 35) p else v
      nApply n 35 0 (if nAcq z n f (t % 35) p = true then sAc z (va_up (nAc z) (t % 35) p) else z)
def nRecv (u : NS) (n f t y : Nat) (p : Int64) : Int32 × NS :=
  if nWf t p n = false then (-3, u) else if nObj u t y p = 0 then nTake u n f t y p else (nObj u t y p, u)
def nWould (u : NS) (t y : Nat) (p : Int64) : Bool := decide (nCo u = 0) && (decide (nTo u (t * 7 + y) ≠ p) && decide (nObj u t y p = 0))
def nKeep (u : NS) (n i : Nat) : Bool :=
  if nSa u (35 + i) ≠ -1 ∨ nSa u (70 + i) ≠ -1 then true
  else decide (0 < nTell u (35 + i) n) || (decide (0 < nTell u (70 + i) n) || decide (0 < nTell u (105 + i) n))
def nKept (u : NS) (n : Nat) : Nat := cntB (nKeep u n) 35
/-- balance less what is submitted and not applied: the first m papers behind the k-th -/
def nLeft (u : NS) (me k : Nat) : Nat → Int64
  | 0 => nBa u me
  | m + 1 => nLeft u me k m - lN (amtN (nSa u (me * 5 + (k + m))))
def nSpend (u : NS) (me : Nat) : Int64 := nLeft u me (nCn u me) (nSu u - nCn u me)
def nLast (u : NS) (me c : Nat) : Nat → Nat
  | 0 => 0
  | t + 1 => if payN (nSa u (105 + c * 5 + t)) = me then t + 1 else nLast u me c t
/-- digits, three bits each -/
def digs (f : Nat → Nat) : Nat → Nat
  | 0 => 0
  | k + 1 => digs f k + f k * 2 ^ (3 * k)
def nNeeds (u : NS) (me n : Nat) : Nat := digs (fun c => nLast u me c (nCn u c)) n
def nMark (u : NS) (n : Nat) : Nat := digs (nCn u) n
def nSubmit (u : NS) (me n pay amt : Nat) : Int32 × NS :=
  if 5 ≤ nSu u then (-8, u)
  else if nSpend u me < lN amt then (-9, u)
  else if nFu u = 1 then (-7, nDown u)
  else (nI (nSu u + 1), sSu (nWr u (me * 5 + nSu u) (lN (pay + 8 * amt + 8192 * nNeeds u me n))) (nSu u + 1))
def nMarkW (u : NS) (n : Nat) : Int32 × NS := if nFu u = 1 then (-7, nDown u) else (nI (nMark u n), nWr u 140 (lN (nMark u n)))
