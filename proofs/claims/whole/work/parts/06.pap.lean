/-! What the papers' checks rest on -/
theorem isMk_neg {d : Int64} {n : Nat} (hn : n ≤ 7) (h : d < 0) : isMk d n = false := by
  rw [px_neg] at h
  have h2 : 2 ^ (3 * n) ≤ 2 ^ 21 := Nat.pow_le_pow_right (by decide) (by omega)
  have h3 : ¬ pn d < 2 ^ (3 * n) := by omega
  simp [isMk, h3]
theorem isMk_big {d : Int64} {n : Nat} (hn : n ≤ 7) (h0 : ¬ d < 0) (h : ¬ d < lN (2 ^ (3 * n))) : isMk d n = false := by
  have h2 : 2 ^ (3 * n) ≤ 2 ^ 21 := Nat.pow_le_pow_right (by decide) (by omega)
  have h1 : lN (2 ^ (3 * n)) ≤ d := Int64.not_lt.mp h
  rw [px_ge d (by omega) h0] at h1
  have h3 : ¬ pn d < 2 ^ (3 * n) := by omega
  simp [isMk, h3]
theorem isMk_dig {d : Int64} {n c : Nat} (hc : c < n) (h : 5 < digN d c) : isMk d n = false := by
  have h3 : allB (fun c => decide (digN d c ≤ 5)) n = false := allB_f hc (by simpa using h)
  simp [isMk, h3]
theorem isMk_ok {d : Int64} {n : Nat} (h0 : ¬ d < 0) (h : d < lN (2 ^ (3 * n))) (ha : allB (fun c => decide (digN d c ≤ 5)) n = true) (hn : n ≤ 7 := by assumption) : isMk d n = true := by
  have h2 : 2 ^ (3 * n) ≤ 2 ^ 21 := Nat.pow_le_pow_right (by decide) (by omega)
  have h1 : ¬ lN (2 ^ (3 * n)) ≤ d := Int64.not_le.mpr h
  rw [px_ge d (by omega) h0] at h1
  have h3 : pn d < 2 ^ (3 * n) := by omega
  simp [isMk, h3, ha]
theorem wfP_eq {p : Int64} {a n : Nat} (hn : n ≤ 7) : wfP p a n = (decide (payN p < n) && (decide (payN p ≠ a) && (decide (amtN p ≠ 0) && (decide (needN p a = 0) && isMk (p >>> ((nI 13).toInt64 &&& 63)) n)))) := by
  have key : isMk (p >>> ((nI 13).toInt64 &&& 63)) n = (decide (pn p < 2 ^ (13 + 3 * n)) && allB (fun c => decide (needN p c ≤ 5)) n) := by
    have h2 : 2 ^ (13 + 3 * n) ≤ 2 ^ 34 := Nat.pow_le_pow_right (by decide) (by omega)
    by_cases h : p < 0
    · rw [isMk_neg hn (px_13n p h)]
      rw [px_neg] at h
      have h3 : ¬ pn p < 2 ^ (13 + 3 * n) := by omega
      simp [h3]
    · have hd : (fun c => decide (digN (p >>> ((nI 13).toInt64 &&& 63)) c ≤ 5)) = (fun c => decide (needN p c ≤ 5)) := by
        funext c
        rw [px_dig13 p h c]
      have hl := px_lt p
      unfold isMk
      rw [hd, px_13 p h, px_lN (by omega)]
      have e : (pn p / 2 ^ 13 < 2 ^ (3 * n)) ↔ pn p < 2 ^ (13 + 3 * n) := by
        rw [Nat.div_lt_iff_lt_mul (by decide), Nat.pow_add, Nat.mul_comm]
      simp only [e]
  rw [key]
  rfl
theorem wfP_ok {p : Int64} {a n : Nat} (hn : n ≤ 7) (h1 : payN p < n) (h2 : payN p ≠ a) (h3 : amtN p ≠ 0) (h4 : needN p a = 0) (h5 : isMk (p >>> ((nI 13).toInt64 &&& 63)) n = true) : wfP p a n = true := by
  rw [wfP_eq hn]
  simp [h1, h2, h3, h4, h5]
theorem wfP_f {p : Int64} {a n : Nat} (hn : n ≤ 7) (h : n ≤ payN p ∨ payN p = a ∨ amtN p = 0 ∨ needN p a ≠ 0 ∨ isMk (p >>> ((nI 13).toInt64 &&& 63)) n = false) : wfP p a n = false := by
  rw [wfP_eq hn]
  rcases h with h | h | h | h | h
  · have : ¬ payN p < n := by omega
    simp [this]
  · simp [h]
  · simp [h]
  · simp [h]
  · simp [h]
theorem px_shl {n k : Nat} (hk : k < 64) : lN n <<< ((nI k).toInt64 &&& 63) = lN (n * 2 ^ k) := by
  apply Int64.toBitVec_inj.mp
  rw [Int64.toBitVec_shiftLeft]
  show (lN n).toBitVec <<< (((nI k).toInt64 &&& 63).toBitVec.smod 64).toNat = _
  rw [pb_amt ⟨k, hk⟩]
  apply BitVec.eq_of_toNat_eq
  rw [BitVec.toNat_shiftLeft]
  show ((Int64.ofNat n).toBitVec.toNat <<< k) % 2 ^ 64 = (Int64.ofNat (n * 2 ^ k)).toBitVec.toNat
  rw [Int64.toBitVec_ofNat', Int64.toBitVec_ofNat', BitVec.toNat_ofNat, BitVec.toNat_ofNat, Nat.shiftLeft_eq, Nat.mod_mul_mod]
theorem px_or {a b k : Nat} (ha : a < 2 ^ k) (h : b * 2 ^ k + a < 2 ^ 64) : lN a ||| lN (b * 2 ^ k) = lN (a + b * 2 ^ k) := by
  apply px_inj
  have h1 : a < 2 ^ 64 := by omega
  have h2 : b * 2 ^ k < 2 ^ 64 := by omega
  rw [px_lN (by omega)]
  show (lN a ||| lN (b * 2 ^ k)).toBitVec.toNat = _
  rw [Int64.toBitVec_or, BitVec.toNat_or]
  show pn (lN a) ||| pn (lN (b * 2 ^ k)) = _
  rw [px_lN h1, px_lN h2, Nat.or_comm, Nat.mul_comm b, ← Nat.two_pow_add_eq_or_of_lt ha]
  omega
theorem px_make {pay amt nd : Nat} (hp : pay < 8) (ha : amt < 1024) (hd : nd < 2097152) : ((nI pay).toInt64 ||| (nI amt).toInt64 <<< ((nI 3).toInt64 &&& 63)) ||| lN nd <<< ((nI 13).toInt64 &&& 63) = lN (pay + 8 * amt + 8192 * nd) := by
  rw [nI_l (by omega), nI_l (by omega), px_shl (by decide), px_shl (by decide), px_or (by omega) (by omega), px_or (by omega) (by omega)]
  congr 1
  omega
