/-! Pure words of the reference: twelve rows. x, y: nodes; b: an account; q: a number; t: a topic (kind * 35 + b * 5 + q - 1; 140: marks) -/
abbrev RS : Type := (Nat → Nat) × (Nat → Nat) × (Nat → Nat) × (Nat → Int64) × (Nat → Int64) × (Nat → Int64) × (Nat → Int64) × (Nat → Nat) × (Nat → Nat) × (Nat → Int64) × (Nat → Nat) × (Nat → Int64)
abbrev rSt (S : RS) : Nat → Nat := S.1
abbrev rFu (S : RS) : Nat → Nat := S.2.1
abbrev rSu (S : RS) : Nat → Nat := S.2.2.1
abbrev rOw (S : RS) : Nat → Int64 := S.2.2.2.1
abbrev rEc (S : RS) : Nat → Int64 := S.2.2.2.2.1
abbrev rRe (S : RS) : Nat → Int64 := S.2.2.2.2.2.1
abbrev rAp (S : RS) : Nat → Int64 := S.2.2.2.2.2.2.1
abbrev rFr (S : RS) : Nat → Nat := S.2.2.2.2.2.2.2.1
abbrev rMa (S : RS) : Nat → Nat := S.2.2.2.2.2.2.2.2.1
abbrev rHe (S : RS) : Nat → Int64 := S.2.2.2.2.2.2.2.2.2.1
abbrev rHm (S : RS) : Nat → Nat := S.2.2.2.2.2.2.2.2.2.2.1
abbrev rAc (S : RS) : Nat → Int64 := S.2.2.2.2.2.2.2.2.2.2.2
def rOk (S : RS) : Prop := (∀ j, rSt S j ≤ 2) ∧ (∀ j, rFu S j ≤ 9) ∧ (∀ j, rSu S j ≤ 5) ∧ (∀ j, rFr S j ≤ 5) ∧ (∀ j, rMa S j ≤ 2097152) ∧ (∀ j, rHm S j ≤ 2097152)
def rW (cI cJ : ClassId) (am : Nat → Nat) (n f : Nat) (z : Int64) (S : RS) : va_W :=
  [(am 0, .inr (2, [.int (nI n), .int (nI f), .long z, .ref (am 1), .ref (am 2), .ref (am 3), .ref (am 4), .ref (am 5), .ref (am 6), .ref (am 7), .ref (am 8), .ref (am 9), .ref (am 10), .ref (am 11), .ref (am 12)])),
   (am 1, .inl (cI, 7, .inl (fun j => nI (rSt S j)))), (am 2, .inl (cI, 7, .inl (fun j => nI (rFu S j)))), (am 3, .inl (cI, 7, .inl (fun j => nI (rSu S j)))),
   (am 4, .inl (cJ, 35, .inr (.inl (rOw S)))), (am 5, .inl (cJ, 245, .inr (.inl (rEc S)))), (am 6, .inl (cJ, 245, .inr (.inl (rRe S)))), (am 7, .inl (cJ, 245, .inr (.inl (rAp S)))),
   (am 8, .inl (cI, 49, .inl (fun j => nI (rFr S j)))), (am 9, .inl (cI, 7, .inl (fun j => nI (rMa S j)))), (am 10, .inl (cJ, 5145, .inr (.inl (rHe S)))),
   (am 11, .inl (cI, 49, .inl (fun j => nI (rHm S j)))), (am 12, .inl (cJ, 245, .inr (.inl (rAc S))))]
def rCor (S : RS) (n : Nat) (x : Int32) : Bool := isN n x && decide (rSt S (xN x) ≠ 2)
def rUp (S : RS) (n : Nat) (x : Int32) : Bool := isN n x && decide (rSt S (xN x) = 0)
def rState (S : RS) (n : Nat) (x : Int32) : Int32 := if isN n x = true then nI (rSt S (xN x)) else -1
def isIn (n : Nat) (b q : Int32) : Bool := isN n b && (decide (¬ q < 1) && decide (¬ 5 < q))
def rCnt (S : RS) (x b : Nat) : Nat := cntB (fun s => decide (rAp S ((x * 7 + b) * 5 + s) ≠ 0)) 5
def wAdd (p : Int64) (c b : Nat) (z : Int64) : Int64 :=
  if p ≠ 0 ∧ payN p = b then (if p ≠ 0 ∧ c = b then z - lN (amtN p) else z) + lN (amtN p) else (if p ≠ 0 ∧ c = b then z - lN (amtN p) else z)
def rWs (ap : Nat → Int64) (x b c : Nat) (z : Int64) : Nat → Int64
  | 0 => z
  | s + 1 => wAdd (ap ((x * 7 + c) * 5 + s)) c b (rWs ap x b c z s)
def rWo (ap : Nat → Int64) (x b : Nat) (z : Int64) : Nat → Int64
  | 0 => z
  | c + 1 => rWs ap x b c (rWo ap x b z c) 5
def rVal (S : RS) (n : Nat) (z : Int64) (x c : Nat) (q : Int64) : Bool := allB (fun b => decide (needN q b ≤ rCnt S x b)) n && decide (lN (amtN q) ≤ rWo (rAp S) x c z n)
/-- a row with the places lo .. lo + k - 1 set to v -/
def blk {α : Type} (f : Nat → α) (lo k : Nat) (v : α) : Nat → α := fun j => if lo ≤ j ∧ j < lo + k then v else f j
def rFall (S : RS) (x : Nat) : RS := (va_up (rSt S) x 1, va_up (rFu S) x 0, rSu S, rOw S, rEc S, rRe S, rAp S, rFr S, rMa S, blk (rHe S) (735 * x) 735 0, blk (rHm S) (7 * x) 7 0, blk (rAc S) (35 * x) 35 0)
def rBurn (S : RS) (x : Nat) : RS := if rFu S x = 1 then rFall S x else (rSt S, va_up (rFu S) x (rFu S x - 1), S.2.2)
def rBn (S : RS) (x : Nat) : Bool := decide (rFu S x = 1)
theorem rCor_f {S : RS} {n : Nat} {x : Int32} (h : isN n x = false) : rCor S n x = false := by simp [rCor, h]
theorem rUp_f {S : RS} {n : Nat} {x : Int32} (h : isN n x = false) : rUp S n x = false := by simp [rUp, h]
theorem rState_f {S : RS} {n : Nat} {x : Int32} (h : isN n x = false) : rState S n x = -1 := by simp [rState, h]
theorem rCor_N {S : RS} {n x : Nat} (hn : n ≤ 7) (hx : x < n) : rCor S n (nI x) = decide (rSt S x ≠ 2) := by
  rw [rCor, isN_nI hn hx, xN_nI (by omega)]
  rfl
theorem rUp_N {S : RS} {n x : Nat} (hn : n ≤ 7) (hx : x < n) : rUp S n (nI x) = decide (rSt S x = 0) := by
  rw [rUp, isN_nI hn hx, xN_nI (by omega)]
  rfl
theorem rState_N {S : RS} {n x : Nat} (hn : n ≤ 7) (hx : x < n) : rState S n (nI x) = nI (rSt S x) := by
  rw [rState, isN_nI hn hx, xN_nI (by omega)]
  rfl
theorem rUp_of {S : RS} {n : Nat} {x : Int32} (hn : n ≤ 7) (h : rUp S n x = true) : ∃ k, k < n ∧ x = nI k ∧ rSt S k = 0 := by
  have h1 : isN n x = true := by
    cases hb : isN n x with
    | true => rfl
    | false => rw [rUp_f hb] at h; cases h
  obtain ⟨k, hk, rfl⟩ := isN_of hn h1
  rw [rUp_N hn hk] at h
  exact ⟨k, hk, rfl, of_decide_eq_true h⟩
theorem rCor_of {S : RS} {n : Nat} {x : Int32} (hn : n ≤ 7) (h : rCor S n x = true) : ∃ k, k < n ∧ x = nI k ∧ rSt S k ≠ 2 := by
  have h1 : isN n x = true := by
    cases hb : isN n x with
    | true => rfl
    | false => rw [rCor_f hb] at h; cases h
  obtain ⟨k, hk, rfl⟩ := isN_of hn h1
  rw [rCor_N hn hk] at h
  exact ⟨k, hk, rfl, of_decide_eq_true h⟩
theorem isIn_of {n : Nat} {b q : Int32} (hn : n ≤ 7) (h : isIn n b q = true) : ∃ b' q', b' < n ∧ 1 ≤ q' ∧ q' ≤ 5 ∧ b = nI b' ∧ q = nI q' := by
  simp only [isIn, Bool.and_eq_true, decide_eq_true_eq] at h
  obtain ⟨h1, h2, h3⟩ := h
  obtain ⟨b', hb', rfl⟩ := isN_of hn h1
  have hq0 : ¬ q < 0 := fun z => h2 (Int32.lt_of_lt_of_le z (by decide))
  obtain ⟨q', hq', rfl⟩ := nI_of2 (M := 5) (n := 5) (by decide) hq0 (Int32.not_lt.mp h3)
  refine ⟨b', q', hb', ?_, hq', rfl, rfl⟩
  rcases Nat.lt_or_ge q' 1 with z | z
  · exact absurd ((nI_ltI (a := q') (b := 1) (by omega) (by omega)).mpr z) h2
  · exact z
theorem isIn_N {n b q : Nat} (hn : n ≤ 7) (hb : b < n) (h1 : 1 ≤ q) (h5 : q ≤ 5) : isIn n (nI b) (nI q) = true := by
  simp only [isIn, Bool.and_eq_true, decide_eq_true_eq]
  refine ⟨isN_nI hn hb, fun z => ?_, fun z => ?_⟩
  · have := (nI_ltI (a := q) (b := 1) (by omega) (by omega)).mp z; omega
  · have := (nI_ltI (a := 5) (b := q) (by omega) (by omega)).mp z; omega
theorem isIn_f1 {n : Nat} {b q : Int32} (h : isN n b = false) : isIn n b q = false := by simp [isIn, h]
theorem isIn_f2 {n : Nat} {b q : Int32} (h : q < 1) : isIn n b q = false := by simp [isIn, h]
theorem isIn_f3 {n : Nat} {b q : Int32} (h : 5 < q) : isIn n b q = false := by simp [isIn, h]
theorem isIn_t {n : Nat} {b q : Int32} (h1 : isN n b = true) (h2 : ¬ q < 1) (h3 : ¬ 5 < q) : isIn n b q = true := by simp [isIn, h1, h2, h3]
theorem px_digL (p : Int64) {c : Nat} (hc : c < 7) : (p >>> ((nI (3 * c)).toInt64 &&& 63)) &&& 7 = lN (digN p c) := by
  apply px_inj
  have hd := digN_lt p c
  rw [px_lN (by omega)]
  show ((p >>> ((nI (3 * c)).toInt64 &&& 63)) &&& 7).toBitVec.toNat = _
  rw [Int64.toBitVec_and, Int64.toBitVec_shiftRight]
  have e : p.toBitVec.sshiftRight' (((nI (3 * c)).toInt64 &&& 63).toBitVec.smod 64) = p.toBitVec.sshiftRight (3 * c) := by
    show p.toBitVec.sshiftRight (((nI (3 * c)).toInt64 &&& 63).toBitVec.smod 64).toNat = _
    rw [pb_amt ⟨3 * c, by omega⟩]
  rw [e]
  exact pb_ext p.toBitVec (3 * c) 3 (by omega)
theorem need_hi {p : Int64} {c : Nat} (h : pn p < 2 ^ (13 + 3 * c)) : ∀ d, c ≤ d → needN p d = 0 := by
  intro d hd
  unfold needN
  rw [Nat.div_eq_of_lt (Nat.lt_of_lt_of_le h (Nat.pow_le_pow_right (by decide) (by omega)))]
theorem need_lo {p : Int64} {c : Nat} (h : pn p < 2 ^ (13 + 3 * (c + 1))) (h0 : needN p c = 0) : pn p < 2 ^ (13 + 3 * c) := by
  unfold needN at h0
  have e : 2 ^ (13 + 3 * (c + 1)) = 2 ^ (13 + 3 * c) * 8 := by rw [show 13 + 3 * (c + 1) = (13 + 3 * c) + 3 by omega, Nat.pow_add]
  rw [e] at h
  have h1 : pn p / 2 ^ (13 + 3 * c) < 8 := Nat.div_lt_of_lt_mul h
  have h2 : pn p / 2 ^ (13 + 3 * c) = 0 := by rw [Nat.mod_eq_of_lt h1] at h0; exact h0
  exact (Nat.div_eq_zero_iff_lt (Nat.two_pow_pos _)).mp h2
theorem wf_all {p : Int64} {b n : Nat} (hn : n ≤ 7) (h34 : pn p < 2 ^ 34) (ha : ∀ c, c < 7 → needN p c ≤ 5 ∧ (0 < needN p c → c ≠ b ∧ c < n)) (hb : b < n) (h1 : payN p < n) (h2 : payN p ≠ b) (h3 : amtN p ≠ 0) : wfP p b n = true := by
  have hz : ∀ c, n ≤ c → c < 7 → needN p c = 0 := fun c h4 h5 => by
    rcases Nat.eq_zero_or_pos (needN p c) with h | h
    · exact h
    · have := (ha c h5).2 h; omega
  have hd : ∀ k, k ≤ 7 - n → pn p < 2 ^ (13 + 3 * (7 - k)) := by
    intro k
    induction k with
    | zero => intro _; exact h34
    | succ k ih =>
      intro hk
      refine need_lo ?_ (hz (7 - (k + 1)) (by omega) (by omega))
      rw [show 7 - (k + 1) + 1 = 7 - k by omega]
      exact ih (by omega)
  have hb0 : needN p b = 0 := by
    rcases Nat.eq_zero_or_pos (needN p b) with h | h
    · exact h
    · exact absurd rfl ((ha b (by omega)).2 h).1
  have hp := hd (7 - n) (Nat.le_refl _)
  rw [show 7 - (7 - n) = n by omega] at hp
  have hall : allB (fun c => decide (needN p c ≤ 5)) n = true := allB_iff.mpr (fun c hc => decide_eq_true (ha c (by omega)).1)
  simp [wfP, h1, h2, h3, hb0, hp, hall]
theorem wf_need {p : Int64} {b n c : Nat} (h : wfP p b n = true) : needN p c ≤ 5 ∧ (0 < needN p c → c ≠ b ∧ c < n) := by
  simp only [wfP, Bool.and_eq_true, decide_eq_true_eq] at h
  obtain ⟨-, -, -, h4, h5, h6⟩ := h
  rcases Nat.lt_or_ge c n with hc | hc
  · have := of_decide_eq_true (allB_iff.mp h6 c hc)
    exact ⟨this, fun z => ⟨fun e => by rw [e] at z; omega, hc⟩⟩
  · rw [need_hi h5 c hc]
    exact ⟨by omega, fun z => absurd z (by omega)⟩
theorem wf_34 {p : Int64} {b n : Nat} (hn : n ≤ 7) (h : wfP p b n = true) : pn p < 2 ^ 34 := by
  simp only [wfP, Bool.and_eq_true, decide_eq_true_eq] at h
  exact Nat.lt_of_lt_of_le h.2.2.2.2.1 (Nat.pow_le_pow_right (by decide) (by omega))
theorem wf_f {p : Int64} {b n : Nat} (hn : n ≤ 7) (h : 2 ^ 34 ≤ pn p ∨ n ≤ payN p ∨ payN p = b ∨ amtN p = 0 ∨ ∃ c, ¬ (needN p c ≤ 5 ∧ (0 < needN p c → c ≠ b ∧ c < n))) : wfP p b n = false := by
  cases hw : wfP p b n with
  | false => rfl
  | true =>
    have h1 := wf_34 hn hw
    have hw2 := hw
    simp only [wfP, Bool.and_eq_true, decide_eq_true_eq] at hw2
    rcases h with h | h | h | h | ⟨c, h⟩
    · omega
    · omega
    · exact absurd h hw2.2.1
    · exact absurd h hw2.2.2.1
    · exact absurd (wf_need hw) h
theorem pn_neg {p : Int64} (h : p < 0) : 2 ^ 34 ≤ pn p := by rw [px_neg] at h; omega
theorem pn_big {p : Int64} (h0 : ¬ p < 0) (h : ¬ p < 17179869184) : 2 ^ 34 ≤ pn p := by
  have h1 : lN (2 ^ 34) ≤ p := Int64.not_lt.mp h
  exact (px_ge p (by decide) h0).mp h1
theorem pn_small {p : Int64} (h0 : ¬ p < 0) (h : p < 17179869184) : pn p < 2 ^ 34 := by
  have h1 : ¬ lN (2 ^ 34) ≤ p := Int64.not_le.mpr h
  rw [px_ge p (by decide) h0] at h1
  omega
theorem rCnt_le (S : RS) (x b : Nat) : rCnt S x b ≤ 5 := cntB_le _ _
theorem rCnt_lt (S : RS) (x b : Nat) : rCnt S x b ≤ 5 := cntB_le _ _
theorem blk_0 {α : Type} (f : Nat → α) (lo : Nat) (v : α) : blk f lo 0 v = f := by
  funext j
  exact if_neg (by omega)
theorem blk_up {α : Type} (f : Nat → α) (lo k : Nat) (v : α) : va_up (blk f lo k v) (lo + k) v = blk f lo (k + 1) v := by
  funext j
  unfold va_up blk
  by_cases h : j = lo + k
  · rw [if_pos h, if_pos (by omega)]
  · rw [if_neg h]
    by_cases h2 : lo ≤ j ∧ j < lo + k
    · rw [if_pos h2, if_pos (by omega)]
    · rw [if_neg h2, if_neg (by omega)]
theorem lN5 {d : Nat} (hd : d < 8) : lN d ≤ 5 ↔ d ≤ 5 := pk_lLE (a := d) (b := 5) (by omega) (by omega)
theorem va_up2 {α : Type} {f : Nat → α} {k : Nat} {v w : α} : va_up (va_up f k v) k w = va_up f k w := by
  funext j
  unfold va_up
  split <;> rfl
theorem va_upI {α : Type} {f : Nat → α} {k : Nat} {v : α} (h : v = f k) : va_up f k v = f := by
  funext j
  unfold va_up
  split
  · rename_i e; rw [e]; exact h
  · rfl
theorem rBurn_0 {S : RS} {x : Nat} (h : rFu S x = 0) : rBurn S x = S := by
  unfold rBurn
  rw [if_neg (by omega), va_upI (by omega)]
theorem rBurn_1 {S : RS} {x : Nat} (h : rFu S x = 1) : rBurn S x = rFall S x := if_pos h
theorem rFall_up {S : RS} {x v : Nat} : rFall (rSt S, va_up (rFu S) x v, rSu S, rOw S, rEc S, rRe S, rAp S, rFr S, rMa S, rHe S, rHm S, rAc S) x = rFall S x := by
  show (va_up (rSt S) x 1, va_up (va_up (rFu S) x v) x 0, _) = _
  rw [va_up2]
  rfl
theorem wAdd_0 {p z : Int64} {c b : Nat} (h : p = 0) : wAdd p c b z = z := by rw [wAdd, if_neg (fun q => q.1 h), if_neg (fun q => q.1 h)]
theorem wAdd_ff {p z : Int64} {c b : Nat} (h1 : c ≠ b) (h2 : payN p ≠ b) : wAdd p c b z = z := by rw [wAdd, if_neg (fun q => h2 q.2), if_neg (fun q => h1 q.2)]
theorem wAdd_tf {p z : Int64} {c b : Nat} (h : ¬ p = 0) (h1 : c = b) (h2 : payN p ≠ b) : wAdd p c b z = z - lN (amtN p) := by rw [wAdd, if_neg (fun q => h2 q.2), if_pos ⟨h, h1⟩]
theorem wAdd_ft {p z : Int64} {c b : Nat} (h : ¬ p = 0) (h1 : c ≠ b) (h2 : payN p = b) : wAdd p c b z = z + lN (amtN p) := by rw [wAdd, if_pos ⟨h, h2⟩, if_neg (fun q => h1 q.2)]
theorem wAdd_tt {p z : Int64} {c b : Nat} (h : ¬ p = 0) (h1 : c = b) (h2 : payN p = b) : wAdd p c b z = z - lN (amtN p) + lN (amtN p) := by rw [wAdd, if_pos ⟨h, h2⟩, if_pos ⟨h, h1⟩]
