/-! The reference's larger methods: what they answer and do -/
theorem gj_cut {G : Nat → List (Nat × Value) → List Value → va_W → Prop} {σ : Type} (Hy : σ → Prop) (pc2 : Nat) (lo2 : List (Nat × Value)) (w2 : σ → va_W) (hJ : ∀ x, Hy x → G pc2 lo2 [] (w2 x)) {pc : Nat} {lo : List (Nat × Value)} {st : List Value} {w : va_W} (k : (∀ x, Hy x → G pc2 lo2 [] (w2 x)) → G pc lo st w) : G pc lo st w := k hJ
def rSd0 (S : RS) (y k b q : Nat) : Int64 :=
  if k = 3 then rAp S ((y * 7 + b) * 5 + q - 1)
  else if rFr S (7 * y + b) < q then
    (if k = 1 then rEc S ((y * 7 + b) * 5 + q - 1) else if k = 2 then rRe S ((y * 7 + b) * 5 + q - 1) else if y = b ∧ q ≤ rSu S y then rOw S (5 * y + q - 1) else 0)
  else 0
def rSaid (S : RS) (y t : Nat) : Int64 := if t = 140 then lN (rMa S y) - 1 else if rSd0 S y (t / 35) (t % 35 / 5) (t % 5 + 1) = 0 then -1 else rSd0 S y (t / 35) (t % 35 / 5) (t % 5 + 1)
def rSaidC (S : RS) (n y : Nat) (k b q : Int32) : Int64 := match tpc n k b q with
  | some t => rSaid S y t
  | none => -1
def rOb0 (S : RS) (n x y k b q : Nat) (p : Int64) : Int32 :=
  if wfP p b n = false then -3
  else if k = 0 ∧ y ≠ b then -4
  else if q ≤ rFr S (7 * x + b) then -5
  else if (if k = 0 then rEc S ((x * 7 + b) * 5 + q - 1) else rHe S (((x * 3 + k - 1) * 35 + b * 5 + q - 1) * 7 + y)) = 0 then 0 else -6
def rObj (S : RS) (n x y t : Nat) (p : Int64) : Int32 :=
  if t = 140 then (if isMk p n = false then -3 else if lN (rHm S (7 * x + y)) = p + 1 then -6 else 0)
  else rOb0 S n x y (t / 35) (t % 35 / 5) (t % 5 + 1) p
def rObjC (S : RS) (n x y : Nat) (k b q : Int32) (p : Int64) : Int32 := match tpc n k b q with
  | some t => rObj S n x y t p
  | none => -3
def rMany (S : RS) (n x k b q : Nat) (p : Int64) : Nat := cntB (fun y => decide (rHe S (((x * 3 + k - 1) * 35 + b * 5 + q - 1) * 7 + y) = p)) n
theorem rMany_lt (S : RS) (n x k b q : Nat) (p : Int64) : rMany S n x k b q p ≤ n := cntB_le _ _
theorem kbq {k b q : Nat} (hb : b < 7) (h1 : 1 ≤ q) (h5 : q ≤ 5) : ((k * 7 + b) * 5 + q - 1) / 35 = k ∧ ((k * 7 + b) * 5 + q - 1) % 35 / 5 = b ∧ ((k * 7 + b) * 5 + q - 1) % 5 + 1 = q := by omega
theorem rSaid_kbq {S : RS} {n y k b q : Nat} (hn : n ≤ 7) (hk : k ≤ 3) (hb : b < n) (h1 : 1 ≤ q) (h5 : q ≤ 5) : rSaidC S n y (nI k) (nI b) (nI q) = if rSd0 S y k b q = 0 then -1 else rSd0 S y k b q := by
  obtain ⟨e1, e2, e3⟩ := kbq (k := k) (b := b) (q := q) (by omega) h1 h5
  rw [rSaidC, tpc_N hn hk hb h1 h5]
  show rSaid S y ((k * 7 + b) * 5 + q - 1) = _
  rw [rSaid, if_neg (by omega), e1, e2, e3]
theorem rSaid_4 {S : RS} {n y : Nat} {k b q : Int32} (h1 : k = 4) (h2 : b = 0) (h3 : q = 0) : rSaidC S n y k b q = lN (rMa S y) - 1 := by
  rw [rSaidC, tpc_4t h1 h2 h3]
  rfl
theorem rSaid_none {S : RS} {n y : Nat} {k b q : Int32} (h : tpc n k b q = none) : rSaidC S n y k b q = -1 := by rw [rSaidC, h]
theorem rObj_kbq {S : RS} {n x y k b q : Nat} {p : Int64} (hn : n ≤ 7) (hk : k ≤ 3) (hb : b < n) (h1 : 1 ≤ q) (h5 : q ≤ 5) : rObjC S n x y (nI k) (nI b) (nI q) p = rOb0 S n x y k b q p := by
  obtain ⟨e1, e2, e3⟩ := kbq (k := k) (b := b) (q := q) (by omega) h1 h5
  rw [rObjC, tpc_N hn hk hb h1 h5]
  show rObj S n x y ((k * 7 + b) * 5 + q - 1) p = _
  rw [rObj, if_neg (by omega), e1, e2, e3]
theorem rObj_4 {S : RS} {n x y : Nat} {k b q : Int32} {p : Int64} (h1 : k = 4) (h2 : b = 0) (h3 : q = 0) : rObjC S n x y k b q p = if isMk p n = false then -3 else if lN (rHm S (7 * x + y)) = p + 1 then -6 else 0 := by
  rw [rObjC, tpc_4t h1 h2 h3]
  rfl
theorem rObj_none {S : RS} {n x y : Nat} {k b q : Int32} {p : Int64} (h : tpc n k b q = none) : rObjC S n x y k b q p = -3 := by rw [rObjC, h]
theorem tpc_big {n : Nat} {k b q : Int32} (h : (4 : Int32) < k) : tpc n k b q = none :=
  tpc_n (fun e => by rw [e] at h; exact absurd h (by decide)) (Or.inr (Or.inl (Int32.lt_of_le_of_lt (by decide) h)))
theorem tpc_neg {n : Nat} {k b q : Int32} (h : k < 0) : tpc n k b q = none :=
  tpc_n (fun e => by rw [e] at h; exact absurd h (by decide)) (Or.inl h)
theorem tpc_isIn {n : Nat} {k b q : Int32} (h4 : ¬ k = 4) (h : isIn n b q = false) : tpc n k b q = none := by
  by_cases h1 : k < 0 ∨ 3 < k ∨ isN n b = false ∨ q < 1 ∨ 5 < q
  · exact tpc_n h4 h1
  · exfalso
    have hb : isN n b = true := by
      cases hb : isN n b with
      | true => rfl
      | false => exact absurd (Or.inr (Or.inr (Or.inl hb))) h1
    rw [isIn_t hb (fun z => h1 (Or.inr (Or.inr (Or.inr (Or.inl z))))) (fun z => h1 (Or.inr (Or.inr (Or.inr (Or.inr z)))))] at h
    cases h
/-- kind, account and number, of a kind that is not a mark's -/
theorem kbq_of {n : Nat} {k b q : Int32} (hn : n ≤ 7) (h4 : ¬ k = 4) (h0 : ¬ k < 0) (h5 : ¬ (4 : Int32) < k) (h : isIn n b q = true) : ∃ k' b' q', k' ≤ 3 ∧ b' < n ∧ 1 ≤ q' ∧ q' ≤ 5 ∧ k = nI k' ∧ b = nI b' ∧ q = nI q' := by
  obtain ⟨b', q', hb', hq1, hq5, rfl, rfl⟩ := isIn_of hn h
  obtain ⟨k', hk', rfl⟩ := nI_of2 (M := 4) (n := 4) (by decide) h0 (Int32.not_lt.mp h5)
  refine ⟨k', b', q', ?_, hb', hq1, hq5, rfl, rfl, rfl⟩
  rcases Nat.lt_or_ge k' 4 with z | z
  · omega
  · exact absurd (show nI k' = nI 4 by rw [show k' = 4 by omega]) h4
theorem isIn_wf {n : Nat} {b q : Int32} {w : Bool} (h : (isIn n b q && w) = true) : isIn n b q = true := by
  cases hb : isIn n b q with
  | true => rfl
  | false => rw [hb] at h; cases h
def fgH (S : RS) (n x i k y : Nat) : Nat → Int64 := fun j => if j / 735 = x ∧ j / 7 % 35 = i ∧ (j / 245 % 3 + 1 < k ∧ j % 7 < n ∨ j / 245 % 3 + 1 = k ∧ j % 7 < y) then 0 else rHe S j
theorem fgH_0 (S : RS) (n x i : Nat) : fgH S n x i 1 0 = rHe S := by
  funext j
  exact if_neg (by omega)
theorem fgH_up {S : RS} {n x b q k y : Nat} (hi : b * 5 + q - 1 < 35) (hq : 1 ≤ q) (hy : y < 7) (h1 : 1 ≤ k) (h3 : k ≤ 3) : va_up (fgH S n x (b * 5 + q - 1) k y) (((x * 3 + k - 1) * 35 + b * 5 + q - 1) * 7 + y) 0 = fgH S n x (b * 5 + q - 1) k (y + 1) := by
  funext j
  unfold va_up fgH
  by_cases h : j = ((x * 3 + k - 1) * 35 + b * 5 + q - 1) * 7 + y
  · rw [if_pos h, if_pos (by omega)]
  · rw [if_neg h]
    by_cases h2 : j / 735 = x ∧ j / 7 % 35 = b * 5 + q - 1 ∧ (j / 245 % 3 + 1 < k ∧ j % 7 < n ∨ j / 245 % 3 + 1 = k ∧ j % 7 < y)
    · rw [if_pos h2, if_pos (by omega)]
    · rw [if_neg h2, if_neg (by omega)]
theorem fgH_row (S : RS) (n x i k : Nat) : fgH S n x i k n = fgH S n x i (k + 1) 0 := by
  funext j
  unfold fgH
  by_cases h2 : j / 735 = x ∧ j / 7 % 35 = i ∧ (j / 245 % 3 + 1 < k ∧ j % 7 < n ∨ j / 245 % 3 + 1 = k ∧ j % 7 < n)
  · rw [if_pos h2, if_pos (by omega)]
  · rw [if_neg h2, if_neg (by omega)]
def rForget (S : RS) (n x b q : Nat) : RS := (rSt S, rFu S, rSu S, rOw S, va_up (rEc S) ((x * 7 + b) * 5 + q - 1) 0, va_up (rRe S) ((x * 7 + b) * 5 + q - 1) 0, rAp S, rFr S, rMa S, fgH S n x (b * 5 + q - 1) 4 0, rHm S, rAc S)
def rForgets (n x b k : Nat) : Nat → RS → RS
  | 0, S => S
  | m + 1, S => rForget (rForgets n x b k m S) n x b (k + 1 + m)
def rDg (v b : Nat) : Nat := v / 2 ^ (3 * b) % 8
def rFreeC (n x v b : Nat) (S : RS) : RS :=
  (rSt S, rFu S, rSu S, rOw S, rEc (rForgets n x b (rFr S (7 * x + b)) (rDg v b - rFr S (7 * x + b)) S), rRe (rForgets n x b (rFr S (7 * x + b)) (rDg v b - rFr S (7 * x + b)) S), rAp S, va_up (rFr S) (7 * x + b) (max (rFr S (7 * x + b)) (rDg v b)), rMa S, rHe (rForgets n x b (rFr S (7 * x + b)) (rDg v b - rFr S (7 * x + b)) S), rHm S, rAc S)
def rFreeTo (n x v : Nat) : Nat → RS → RS
  | 0, S => S
  | k + 1, S => rFreeC n x v k (rFreeTo n x v k S)
def rSame (S : RS) (n x : Nat) : Nat := cntB (fun y => decide (0 < rMa S x ∧ rHm S (7 * x + y) = rMa S x)) n
def rRel (S : RS) (n f x : Nat) : RS := if rSame S n x < 2 * f + 1 then S else rFreeTo n x (rMa S x - 1) n S
theorem rSame_pos {S : RS} {n x : Nat} (h : 0 < rSame S n x) : 0 < rMa S x := by
  rcases Nat.eq_zero_or_pos (rMa S x) with h0 | h0
  · exfalso
    have key : ∀ k, cntB (fun y => decide (0 < rMa S x ∧ rHm S (7 * x + y) = rMa S x)) k = 0 := by
      intro k
      induction k with
      | zero => rfl
      | succ k ih => rw [cntB, ih]; simp [h0]
    unfold rSame at h
    rw [key] at h
    omega
  · exact h0
theorem rForgets_eq {n x b k : Nat} : ∀ (m : Nat) (S : RS), rForgets n x b k m S = (rSt S, rFu S, rSu S, rOw S, rEc (rForgets n x b k m S), rRe (rForgets n x b k m S), rAp S, rFr S, rMa S, rHe (rForgets n x b k m S), rHm S, rAc S)
  | 0, _ => rfl
  | m + 1, S => by
    have h := rForgets_eq (n := n) (x := x) (b := b) (k := k) m S
    show rForget (rForgets n x b k m S) n x b (k + 1 + m) = _
    rw [rForget]
    have e1 : rSt (rForgets n x b k m S) = rSt S := by rw [h]
    have e2 : rFu (rForgets n x b k m S) = rFu S := by rw [h]
    have e3 : rSu (rForgets n x b k m S) = rSu S := by rw [h]
    have e4 : rOw (rForgets n x b k m S) = rOw S := by rw [h]
    have e5 : rAp (rForgets n x b k m S) = rAp S := by rw [h]
    have e6 : rFr (rForgets n x b k m S) = rFr S := by rw [h]
    have e7 : rMa (rForgets n x b k m S) = rMa S := by rw [h]
    have e8 : rHm (rForgets n x b k m S) = rHm S := by rw [h]
    have e9 : rAc (rForgets n x b k m S) = rAc S := by rw [h]
    rw [e1, e2, e3, e4, e5, e6, e7, e8, e9]
    rfl
theorem rForgets_fr {n x b k : Nat} (m : Nat) (S : RS) : rFr (rForgets n x b k m S) = rFr S := by rw [rForgets_eq]
theorem rForgets_ma {n x b k : Nat} (m : Nat) (S : RS) : rMa (rForgets n x b k m S) = rMa S := by rw [rForgets_eq]
theorem rFreeTo_ma {n x v : Nat} : ∀ (k : Nat) (S : RS), rMa (rFreeTo n x v k S) = rMa S
  | 0, _ => rfl
  | k + 1, S => rFreeTo_ma k S
theorem rOk_freeTo {n x v : Nat} {S : RS} (h : rOk S) : ∀ k, (∀ b, b < k → rDg v b ≤ 5) → rOk (rFreeTo n x v k S)
  | 0, _ => h
  | k + 1, hd => by
    have ih := rOk_freeTo (n := n) (x := x) (v := v) h k (fun b hb => hd b (by omega))
    refine ⟨ih.1, ih.2.1, ih.2.2.1, fun j => ?_, ih.2.2.2.2.1, ih.2.2.2.2.2⟩
    show va_up (rFr (rFreeTo n x v k S)) (7 * x + k) _ j ≤ 5
    unfold va_up
    split
    · have h1 := ih.2.2.2.1 (7 * x + k)
      have h2 := hd k (by omega)
      omega
    · exact ih.2.2.2.1 j
theorem and_7 {v : Nat} (h : v < 2 ^ 32) : nI v &&& nI 7 = nI (v % 8) := pk_andN h 3 (by decide)
