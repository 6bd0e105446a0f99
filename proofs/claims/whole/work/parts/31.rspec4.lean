/-! The reference: its marks stay, its numbers stay within bounds; delivering -/
def rMkOk (S : RS) (n x : Nat) : Prop := rMa S x = 0 ∨ ∀ b, b < n → rDg (rMa S x - 1) b ≤ 5
def rInv (n : Nat) (S : RS) : Prop := rOk S ∧ ∀ x, x < n → rMkOk S n x
def rKp (M : Nat → Nat) (S : RS) : Prop := rOk S ∧ rMa S = M
theorem rKp_fall {M : Nat → Nat} {S : RS} {x : Nat} (h : rKp M S) : rKp M (rFall S x) := by
  obtain ⟨⟨h1, h2, h3, h4, h5, h6⟩, hm⟩ := h
  refine ⟨⟨fun j => ?_, fun j => ?_, h3, h4, h5, fun j => ?_⟩, hm⟩
  · show va_up (rSt S) x 1 j ≤ 2
    unfold va_up
    split
    · omega
    · exact h1 j
  · show va_up (rFu S) x 0 j ≤ 9
    unfold va_up
    split
    · omega
    · exact h2 j
  · show blk (rHm S) (7 * x) 7 0 j ≤ 2097152
    unfold blk
    split
    · omega
    · exact h6 j
theorem rKp_burn {M : Nat → Nat} {S : RS} {x : Nat} (h : rKp M S) : rKp M (rBurn S x) := by
  unfold rBurn
  split
  · exact rKp_fall h
  · rename_i h1
    have hb : rBn S x = false := by simpa [rBn] using h1
    exact ⟨rOk_burn h.1 hb, h.2⟩
theorem rKp_apy {M : Nat → Nat} {n x : Nat} {z : Int64} : ∀ (m d : Nat) {S : RS}, rKp M S → rKp M (rApy n z x m d S).2
  | 0, _, _, h => h
  | m + 1, d, S, h => by
    unfold rApy
    split
    · exact h
    · split
      · exact rKp_fall h
      · exact rKp_apy m (d + 1) ⟨rOk_stp h.1, h.2⟩
theorem rKp_rel {M : Nat → Nat} {n f x : Nat} {S : RS} (h : rKp M S) (hm : rMkOk S n x) : rKp M (rRel S n f x) := by
  unfold rRel
  split
  · exact h
  · rename_i hs
    have hp := rSame_pos (S := S) (n := n) (x := x) (by omega)
    exact ⟨rOk_freeTo h.1 n (hm.resolve_left (by omega)), (rFreeTo_ma n S).trans h.2⟩
theorem rKp_tk {M : Nat → Nat} {n f x y k b q : Nat} {z p : Int64} {S : RS} (h : rKp M S) : rKp M (rTk S n f z x y k b q p).2 := by
  have hv : rKp M (rV S x y k b q p) := ⟨h.1, h.2⟩
  unfold rTk
  split
  · split
    · exact rKp_fall h
    · have := rKp_burn (x := x) h
      exact ⟨this.1, this.2⟩
  · split
    · exact rKp_fall hv
    · refine rKp_apy 36 0 ?_
      have hz : rKp M (if rRdy (rV S x y k b q p) n f x k b q p = true then rUpRe (rBurn (rV S x y k b q p) x) ((x * 7 + b) * 5 + q - 1) p else rV S x y k b q p) := by
        split
        · have := rKp_burn (x := x) hv
          exact ⟨this.1, this.2⟩
        · exact hv
      generalize (if rRdy (rV S x y k b q p) n f x k b q p = true then rUpRe (rBurn (rV S x y k b q p) x) ((x * 7 + b) * 5 + q - 1) p else rV S x y k b q p) = Z at hz ⊢
      split
      · exact ⟨hz.1, hz.2⟩
      · exact hz
theorem rKp_recv {n f x y : Nat} {z p : Int64} {k b q : Int32} {S : RS} (hn : n ≤ 7) (h : rOk S) (hm : rMkOk S n x) : rKp (rMa S) (rRecvC S n f z x y k b q p).2 := by
  by_cases h0 : rObjC S n x y k b q p = 0
  · rcases rObj_case hn h0 with ⟨rfl, rfl, rfl, hmk⟩ | ⟨k, b, q, hk, hb, hq1, hq5, rfl, rfl, rfl⟩
    · rw [rRecv_4 h0]
      have := mk_pn hn hmk
      exact rKp_rel ⟨rOk_hm h (by omega), rfl⟩ hm
    · rw [rRecv_k hn hk hb hq1 hq5 h0]
      exact rKp_tk ⟨h, rfl⟩
  · rw [rRecv_o h0]
    exact ⟨h, rfl⟩
theorem rInv_recv {n f x y : Nat} {z p : Int64} {k b q : Int32} {S : RS} (hn : n ≤ 7) (hx : x < n) (h : rInv n S) : rInv n (rRecvC S n f z x y k b q p).2 := by
  have hk := rKp_recv (f := f) (y := y) (z := z) (p := p) (k := k) (b := b) (q := q) hn h.1 (h.2 x hx)
  refine ⟨hk.1, fun w hw => ?_⟩
  unfold rMkOk
  rw [hk.2]
  exact h.2 w hw
def rPm (n : Nat) (S : RS) (k : Nat) : Bool := decide (k / 7 % 7 < n) && (decide (k % 7 < n) && rPd S n (k / 49) (k / 7 % 7) (k % 7))
def rFst (n : Nat) (S : RS) : Nat := fstB (rPm n S) 6909 0
def rDel (n f : Nat) (z : Int64) (S : RS) (k : Nat) : RS := (rRecvC S n f z (k % 7) (k / 7 % 7) (nI (k / 49 / 35)) (nI (tA (k / 49))) (nI (tQ (k / 49))) (rSd S n (k / 7 % 7) (k / 49))).2
def rDlv (n f : Nat) (z : Int64) (S : RS) : Bool × RS := if rFst n S = 6909 then (false, S) else (true, rDel n f z S (rFst n S))
def rPump (n f : Nat) (z : Int64) : Nat → Nat → RS → Nat × RS
  | 0, k, S => (k, S)
  | m + 1, k, S => if rFst n S = 6909 then (k, S) else rPump n f z m (k + 1) (rDel n f z S (rFst n S))
def rPumpC (S : RS) (n f : Nat) (z : Int64) (k : Int32) : Int32 × RS := if ¬ k < nI 1 ∧ k ≤ nI 8 then (nI (rPump n f z (xN k) 0 S).1, (rPump n f z (xN k) 0 S).2) else (-1, S)
def rCarry (S : RS) (n f : Nat) (z : Int64) (y x k b q : Int32) : Int32 × RS :=
  if rCor S n y = true ∧ rUp S n x = true then (if rSaidC S n (xN y) k b q < 0 then (-2, S) else rRecvC S n f z (xN x) (xN y) k b q (rSaidC S n (xN y) k b q)) else (-1, S)
def rForge (S : RS) (n f : Nat) (z : Int64) (y x hd : Int32) (p : Int64) : Int32 × RS :=
  if rState S n y = nI 2 ∧ rUp S n x = true then rRecvC S n f z (xN x) (xN y) (hd &&& nI 7) ((hd >>> (nI 3 &&& 31)) &&& nI 7) (hd >>> (nI 6 &&& 31)) p else (-1, S)
theorem rPm_at {n : Nat} {S : RS} {t y x : Nat} (hy : y < 7) (hx : x < 7) : rPm n S ((t * 7 + y) * 7 + x) = (decide (y < n) && (decide (x < n) && rPd S n t y x)) := by
  unfold rPm
  rw [show ((t * 7 + y) * 7 + x) / 7 % 7 = y by omega, show ((t * 7 + y) * 7 + x) % 7 = x by omega, show ((t * 7 + y) * 7 + x) / 49 = t by omega]
theorem rPm_y {n : Nat} {S : RS} {t : Nat} (h : ∀ k, k < (t * 7 + n) * 7 → rPm n S k = false) : ∀ k, k < (t + 1) * 49 → rPm n S k = false := by
  intro k hk
  rcases Nat.lt_or_ge k ((t * 7 + n) * 7) with h1 | h1
  · exact h k h1
  · have : ¬ k / 7 % 7 < n := by omega
    simp [rPm, this]
theorem fstB_min {P : Nat → Bool} : ∀ (k i j : Nat), i ≤ j → j < fstB P k i → P j = false
  | 0, i, j, h1, h2 => by simp only [fstB] at h2; omega
  | k + 1, i, j, h1, h2 => by
    simp only [fstB] at h2
    split at h2
    · omega
    · rename_i hp
      rcases Nat.eq_or_lt_of_le h1 with e | e
      · rw [← e]; simpa using hp
      · exact fstB_min k (i + 1) j e h2
theorem rPm_x {n : Nat} {S : RS} {t y : Nat} (hn : n ≤ 7) (hy : y < 7) (h : ∀ k, k < (t * 7 + y) * 7 → rPm n S k = false) (h0 : fstB (rPd S n t y) n 0 = n) : ∀ k, k < (t * 7 + (y + 1)) * 7 → rPm n S k = false := by
  intro k hk
  rcases Nat.lt_or_ge k ((t * 7 + y) * 7) with h1 | h1
  · exact h k h1
  · have e : k = (t * 7 + y) * 7 + (k - (t * 7 + y) * 7) := by omega
    rw [e, rPm_at hy (by omega)]
    rcases Nat.lt_or_ge (k - (t * 7 + y) * 7) n with h2 | h2
    · rw [fstB_min (P := rPd S n t y) n 0 (k - (t * 7 + y) * 7) (by omega) (by omega)]
      simp
    · have : ¬ k - (t * 7 + y) * 7 < n := by omega
      simp [this]
theorem rFst_at {n : Nat} {S : RS} {t y : Nat} (ht : t < 141) (hy : y < n) (hn : n ≤ 7) (h : ∀ k, k < (t * 7 + y) * 7 → rPm n S k = false) (h0 : ¬ fstB (rPd S n t y) n 0 = n) : fstB (rPd S n t y) n 0 < n ∧ rFst n S = (t * 7 + y) * 7 + fstB (rPd S n t y) n 0 := by
  have h1 := fstB_le (P := rPd S n t y) n 0
  have h2 := fstB_sat (P := rPd S n t y) n 0 (by omega)
  have h3 : fstB (rPd S n t y) n 0 < n := by omega
  refine ⟨h3, fstB_first (fun k hk => ?_) ?_ (by omega)⟩
  · rcases Nat.lt_or_ge k ((t * 7 + y) * 7) with h4 | h4
    · exact h k h4
    · have e : k = (t * 7 + y) * 7 + (k - (t * 7 + y) * 7) := by omega
      rw [e, rPm_at (by omega) (by omega), fstB_min (P := rPd S n t y) n 0 (k - (t * 7 + y) * 7) (by omega) (by omega)]
      simp
  · rw [rPm_at (by omega) (by omega), h2]
    simp [hy, h3]
theorem rDlv_f {n f : Nat} {z : Int64} {S : RS} (h : rFst n S = 6909) : rDlv n f z S = (false, S) := if_pos h
theorem rDlv_t {n f : Nat} {z : Int64} {S : RS} {t y x : Nat} (ht : t < 141) (hy : y < 7) (hx : x < 7) (h : rFst n S = (t * 7 + y) * 7 + x) : rDlv n f z S = (true, (rRecvC S n f z x y (nI (t / 35)) (nI (tA t)) (nI (tQ t)) (rSd S n y t)).2) := by
  rw [rDlv, if_neg (by omega), rDel, h, show ((t * 7 + y) * 7 + x) / 7 % 7 = y by omega, show ((t * 7 + y) * 7 + x) % 7 = x by omega, show ((t * 7 + y) * 7 + x) / 49 = t by omega]
theorem rPump_end {n f m k : Nat} {z : Int64} {S : RS} (h : (rDlv n f z S).1 = false) : rPump n f z m k S = (k, S) ∧ (rDlv n f z S).2 = S := by
  by_cases h1 : rFst n S = 6909
  · rw [rDlv_f h1]
    refine ⟨?_, rfl⟩
    cases m with
    | zero => rfl
    | succ m => simp [rPump, h1]
  · rw [rDlv, if_neg h1] at h
    cases h
theorem rPump_step {n f m i : Nat} {z : Int64} {S : RS} (hi : i < m) (h : (rDlv n f z S).1 = true) : rPump n f z (m - i) i S = rPump n f z (m - (i + 1)) (i + 1) (rDlv n f z S).2 := by
  by_cases h1 : rFst n S = 6909
  · rw [rDlv_f h1] at h; cases h
  · obtain ⟨j, hj⟩ : ∃ j, m - i = j + 1 := ⟨m - i - 1, by omega⟩
    rw [hj, show m - (i + 1) = j by omega, rDlv, if_neg h1]
    simp [rPump, h1]
theorem rInv_dlv {n f : Nat} {z : Int64} {S : RS} (hn : n ≤ 7) (h : rInv n S) : rInv n (rDlv n f z S).2 := by
  unfold rDlv
  split
  · exact h
  · rename_i h1
    have h2 := fstB_sat (P := rPm n S) 6909 0 (by unfold rFst at h1; omega)
    simp only [rPm, Bool.and_eq_true, decide_eq_true_eq] at h2
    exact rInv_recv hn (show rFst n S % 7 < n from h2.2.1) h
