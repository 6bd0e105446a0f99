/-! The reference: applying and receiving -/
def rNxt (S : RS) (n : Nat) (z : Int64) (x c : Nat) : Bool := decide (rCnt S x c < 5) && (decide (rAc S ((x * 7 + c) * 5 + rCnt S x c) ≠ 0) && rVal S n z x c (rAc S ((x * 7 + c) * 5 + rCnt S x c)))
def rLst (S : RS) (n : Nat) (z : Int64) (x : Nat) : Nat := fstB (rNxt S n z x) n 0
def rStp (S : RS) (n : Nat) (z : Int64) (x : Nat) : RS := (rSt S, va_up (rFu S) x (rFu S x - 1), rSu S, rOw S, rEc S, rRe S, va_up (rAp S) ((x * 7 + rLst S n z x) * 5 + rCnt S x (rLst S n z x)) (rAc S ((x * 7 + rLst S n z x) * 5 + rCnt S x (rLst S n z x))), rFr S, rMa S, rHe S, rHm S, va_up (rAc S) ((x * 7 + rLst S n z x) * 5 + rCnt S x (rLst S n z x)) 0)
def rApy (n : Nat) (z : Int64) (x : Nat) : Nat → Nat → RS → Int32 × RS
  | 0, d, S => (nI d, S)
  | m + 1, d, S => if rLst S n z x = n then (nI d, S) else if rFu S x = 1 then (-7, rFall S x) else rApy n z x m (d + 1) (rStp S n z x)
theorem rApy_end {n m d x : Nat} {z : Int64} {S : RS} (h : rLst S n z x = n) : rApy n z x m d S = (nI d, S) := by
  cases m with
  | zero => rfl
  | succ m => simp [rApy, h]
theorem rApy_fall {n m d x : Nat} {z : Int64} {S : RS} (hm : 0 < m) (h : ¬ rLst S n z x = n) (h1 : rFu S x = 1) : rApy n z x m d S = (-7, rFall S x) := by
  obtain ⟨j, rfl⟩ : ∃ j, m = j + 1 := ⟨m - 1, by omega⟩
  simp [rApy, h, h1]
theorem rApy_step {n m i x : Nat} {z : Int64} {S : RS} (hm : i < m) (h : ¬ rLst S n z x = n) (h1 : ¬ rFu S x = 1) : rApy n z x (m - i) i S = rApy n z x (m - (i + 1)) (i + 1) (rStp S n z x) := by
  obtain ⟨j, hj⟩ : ∃ j, m - i = j + 1 := ⟨m - i - 1, by omega⟩
  rw [hj, show m - (i + 1) = j by omega]
  simp [rApy, h, h1]
theorem rBurn_t {S : RS} {x : Nat} (h : rBn S x = false) : rBurn S x = (rSt S, va_up (rFu S) x (rFu S x - 1), S.2.2) := if_neg (by simpa [rBn] using h)
theorem rBn_t {S : RS} {x : Nat} (h : rBn S x = true) : rFu S x = 1 := by simpa [rBn] using h
theorem rBn_f {S : RS} {x : Nat} (h : rBn S x = false) : ¬ rFu S x = 1 := by simpa [rBn] using h
theorem rOk_stp {S : RS} {n x : Nat} {z : Int64} (h : rOk S) : rOk (rStp S n z x) := by
  refine ⟨h.1, fun j => ?_, h.2.2.1, h.2.2.2.1, h.2.2.2.2.1, h.2.2.2.2.2⟩
  show va_up (rFu S) x (rFu S x - 1) j ≤ 9
  unfold va_up
  split
  · have := h.2.1 x; omega
  · exact h.2.1 j
theorem rOk_burn {S : RS} {x : Nat} (h : rOk S) (hb : rBn S x = false) : rOk (rSt S, va_up (rFu S) x (rFu S x - 1), rSu S, rOw S, rEc S, rRe S, rAp S, rFr S, rMa S, rHe S, rHm S, rAc S) := by
  refine ⟨h.1, fun j => ?_, h.2.2.1, h.2.2.2.1, h.2.2.2.2.1, h.2.2.2.2.2⟩
  show va_up (rFu S) x (rFu S x - 1) j ≤ 9
  unfold va_up
  split
  · have := h.2.1 x; omega
  · exact h.2.1 j
def rV (S : RS) (x y k b q : Nat) (p : Int64) : RS := (rSt S, rFu S, rSu S, rOw S, rEc S, rRe S, rAp S, rFr S, rMa S, va_up (rHe S) (((x * 3 + k - 1) * 35 + b * 5 + q - 1) * 7 + y) p, rHm S, rAc S)
def rRdy (V : RS) (n f x k b q : Nat) (p : Int64) : Bool := decide (rRe V ((x * 7 + b) * 5 + q - 1) = 0) && ((decide (k = 1) && decide ((n + f) / 2 + 1 ≤ rMany V n x 1 b q p)) || (decide (k = 2) && decide (f + 1 ≤ rMany V n x 2 b q p)))
def rAq (Z : RS) (n f x b q : Nat) (p : Int64) : Bool := decide (rCnt Z x b < q) && (decide (rAc Z ((x * 7 + b) * 5 + q - 1) = 0) && (decide (2 * f + 1 ≤ rMany Z n x 2 b q p) || decide (f + 1 ≤ rMany Z n x 3 b q p)))
def rUpEc (S : RS) (i : Nat) (p : Int64) : RS := (rSt S, rFu S, rSu S, rOw S, va_up (rEc S) i p, rRe S, rAp S, rFr S, rMa S, rHe S, rHm S, rAc S)
def rUpRe (S : RS) (i : Nat) (p : Int64) : RS := (rSt S, rFu S, rSu S, rOw S, rEc S, va_up (rRe S) i p, rAp S, rFr S, rMa S, rHe S, rHm S, rAc S)
def rUpAc (S : RS) (i : Nat) (p : Int64) : RS := (rSt S, rFu S, rSu S, rOw S, rEc S, rRe S, rAp S, rFr S, rMa S, rHe S, rHm S, va_up (rAc S) i p)
def rUpHm (S : RS) (i v : Nat) : RS := (rSt S, rFu S, rSu S, rOw S, rEc S, rRe S, rAp S, rFr S, rMa S, rHe S, va_up (rHm S) i v, rAc S)
def rTk (S : RS) (n f : Nat) (z : Int64) (x y k b q : Nat) (p : Int64) : Int32 × RS :=
  if k = 0 then (if rFu S x = 1 then (-7, rFall S x) else (0, rUpEc (rBurn S x) ((x * 7 + b) * 5 + q - 1) p))
  else if rRdy (rV S x y k b q p) n f x k b q p = true ∧ rFu S x = 1 then (-7, rFall (rV S x y k b q p) x)
  else
    let Z := if rRdy (rV S x y k b q p) n f x k b q p = true then rUpRe (rBurn (rV S x y k b q p) x) ((x * 7 + b) * 5 + q - 1) p else rV S x y k b q p
    rApy n z x 36 0 (if rAq Z n f x b q p = true then rUpAc Z ((x * 7 + b) * 5 + q - 1) p else Z)
def rRv (S : RS) (n f : Nat) (z : Int64) (x y t : Nat) (p : Int64) : Int32 × RS :=
  if ¬ rObj S n x y t p = 0 then (rObj S n x y t p, S)
  else if t = 140 then (0, rRel (rUpHm S (7 * x + y) (pn p + 1)) n f x)
  else rTk S n f z x y (t / 35) (t % 35 / 5) (t % 5 + 1) p
def rRecvC (S : RS) (n f : Nat) (z : Int64) (x y : Nat) (k b q : Int32) (p : Int64) : Int32 × RS := match tpc n k b q with
  | some t => rRv S n f z x y t p
  | none => (-3, S)
theorem rRecv_o {S : RS} {n f x y : Nat} {z : Int64} {k b q : Int32} {p : Int64} (h : ¬ rObjC S n x y k b q p = 0) : rRecvC S n f z x y k b q p = (rObjC S n x y k b q p, S) := by
  unfold rRecvC
  cases hT : tpc n k b q with
  | none => rw [rObj_none hT]
  | some t =>
    rw [rObjC, hT] at h ⊢
    show rRv S n f z x y t p = _
    rw [rRv, if_pos h]
theorem rRecv_4 {S : RS} {n f x y : Nat} {z : Int64} {p : Int64} (h : rObjC S n x y (nI 4) (nI 0) (nI 0) p = 0) : rRecvC S n f z x y (nI 4) (nI 0) (nI 0) p = (0, rRel (rUpHm S (7 * x + y) (pn p + 1)) n f x) := by
  have hT : tpc n (nI 4) (nI 0) (nI 0) = some 140 := tpc_4t rfl rfl rfl
  rw [rObjC, hT] at h
  rw [rRecvC, hT]
  show rRv S n f z x y 140 p = _
  rw [rRv, if_neg (fun z => z h), if_pos rfl]
theorem rRecv_k {S : RS} {n f x y k b q : Nat} {z : Int64} {p : Int64} (hn : n ≤ 7) (hk : k ≤ 3) (hb : b < n) (h1 : 1 ≤ q) (h5 : q ≤ 5) (h : rObjC S n x y (nI k) (nI b) (nI q) p = 0) : rRecvC S n f z x y (nI k) (nI b) (nI q) p = rTk S n f z x y k b q p := by
  obtain ⟨e1, e2, e3⟩ := kbq (k := k) (b := b) (q := q) (by omega) h1 h5
  rw [rObjC, tpc_N hn hk hb h1 h5] at h
  rw [rRecvC, tpc_N hn hk hb h1 h5]
  show rRv S n f z x y ((k * 7 + b) * 5 + q - 1) p = _
  rw [rRv, if_neg (fun z => z h), if_neg (by omega), e1, e2, e3]
theorem rObj_case {S : RS} {n x y : Nat} {k b q : Int32} {p : Int64} (hn : n ≤ 7) (h : rObjC S n x y k b q p = 0) : (k = nI 4 ∧ b = nI 0 ∧ q = nI 0 ∧ isMk p n = true) ∨ ∃ k' b' q', k' ≤ 3 ∧ b' < n ∧ 1 ≤ q' ∧ q' ≤ 5 ∧ k = nI k' ∧ b = nI b' ∧ q = nI q' := by
  cases hT : tpc n k b q with
  | none => rw [rObj_none hT] at h; exact absurd h (by decide)
  | some t =>
    rcases tpc_of hn hT with ⟨-, h1, h2, h3⟩ | ⟨k', b', q', h1, h2, h3, h4, h5, h6, h7, -⟩
    · left
      refine ⟨h1, h2, h3, ?_⟩
      rw [rObj_4 h1 h2 h3] at h
      cases hm : isMk p n with
      | true => rfl
      | false => rw [hm, if_pos rfl] at h; exact absurd h (by decide)
    · exact Or.inr ⟨k', b', q', h1, h2, h3, h4, h5, h6, h7⟩
theorem mk_pn {p : Int64} {n : Nat} (hn : n ≤ 7) (h : isMk p n = true) : pn p < 2097152 := by
  simp only [isMk, Bool.and_eq_true, decide_eq_true_eq] at h
  exact Nat.lt_of_lt_of_le h.1 (show 2 ^ (3 * n) ≤ 2 ^ 21 from Nat.pow_le_pow_right (by decide) (by omega))
theorem mk_l2i {p : Int64} (h : pn p < 2097152) : p.toInt32 + nI 1 = nI (pn p + 1) := by
  have e : p.toInt32 = nI (pn p) := by
    have := lN_i (pn p)
    rw [← px_of p] at this
    exact this
  rw [e, nI_add]
theorem rOk_hm {S : RS} {i v : Nat} (h : rOk S) (hv : v ≤ 2097152) : rOk (rUpHm S i v) := by
  refine ⟨h.1, h.2.1, h.2.2.1, h.2.2.2.1, h.2.2.2.2.1, fun j => ?_⟩
  show va_up (rHm S) i v j ≤ 2097152
  unfold va_up
  split
  · exact hv
  · exact h.2.2.2.2.2 j
theorem rTk_3 {S Z V : RS} {n f x y k b q : Nat} {z : Int64} {p : Int64} (hV : V = rV S x y k b q p) (h0 : k ≠ 0) (hz : rRdy V n f x k b q p = true ∧ ¬ rFu V x = 1 ∧ Z = rUpRe (rBurn V x) ((x * 7 + b) * 5 + q - 1) p ∨ rRdy V n f x k b q p = false ∧ Z = V) : rTk S n f z x y k b q p = rApy n z x 36 0 (if rAq Z n f x b q p = true then rUpAc Z ((x * 7 + b) * 5 + q - 1) p else Z) := by
  subst hV
  unfold rTk
  rw [if_neg h0]
  rcases hz with ⟨hr, h1, rfl⟩ | ⟨hr, rfl⟩
  · rw [if_neg (fun h => h1 h.2)]
    simp only [hr, if_true]
  · rw [if_neg (fun h => by rw [hr] at h; cases h.1)]
    simp only [hr, Bool.false_eq_true, if_false]
theorem rTk_7 {S V : RS} {n f x y k b q : Nat} {z : Int64} {p : Int64} (hV : V = rV S x y k b q p) (h0 : k ≠ 0) (hr : rRdy V n f x k b q p = true) (h1 : rFu V x = 1) : rTk S n f z x y k b q p = (-7, rFall V x) := by
  subst hV
  unfold rTk
  rw [if_neg h0, if_pos ⟨hr, h1⟩]
