/-! What the walks of the reference's larger methods rest on -/
theorem rObj_wf {S : RS} {n x y : Nat} {k b q : Int32} {p : Int64} (hn : n ≤ 7) (h4 : ¬ k = 4) (h0 : ¬ k < 0) (h5 : ¬ (4 : Int32) < k) (h : (isIn n b q && wfP p (xN b) n) = false) : rObjC S n x y k b q p = -3 := by
  cases hi : isIn n b q with
  | false => exact rObj_none (tpc_isIn h4 hi)
  | true =>
    obtain ⟨k', b', q', hk, hb, hq1, hq5, rfl, rfl, rfl⟩ := kbq_of hn h4 h0 h5 hi
    rw [hi, xN_nI (by omega), Bool.true_and] at h
    rw [rObj_kbq hn hk hb hq1 hq5, rOb0, if_pos h]
theorem wf_in {n b q : Nat} {p : Int64} (hn : n ≤ 7) (hb : b < n) (h1 : 1 ≤ q) (h5 : q ≤ 5) (h : (isIn n (nI b) (nI q) && wfP p (xN (nI b)) n) = true) : wfP p b n = true := by
  rw [isIn_N hn hb h1 h5, xN_nI (by omega), Bool.true_and] at h
  exact h
theorem rFreeC_eq {n x v b : Nat} {S : RS} : rFreeC n x v b S = (rSt (rForgets n x b (rFr S (7 * x + b)) (rDg v b - rFr S (7 * x + b)) S), rFu (rForgets n x b (rFr S (7 * x + b)) (rDg v b - rFr S (7 * x + b)) S), rSu (rForgets n x b (rFr S (7 * x + b)) (rDg v b - rFr S (7 * x + b)) S), rOw (rForgets n x b (rFr S (7 * x + b)) (rDg v b - rFr S (7 * x + b)) S), rEc (rForgets n x b (rFr S (7 * x + b)) (rDg v b - rFr S (7 * x + b)) S), rRe (rForgets n x b (rFr S (7 * x + b)) (rDg v b - rFr S (7 * x + b)) S), rAp (rForgets n x b (rFr S (7 * x + b)) (rDg v b - rFr S (7 * x + b)) S), va_up (rFr (rForgets n x b (rFr S (7 * x + b)) (rDg v b - rFr S (7 * x + b)) S)) (7 * x + b) (max (rFr S (7 * x + b)) (rDg v b)), rMa (rForgets n x b (rFr S (7 * x + b)) (rDg v b - rFr S (7 * x + b)) S), rHe (rForgets n x b (rFr S (7 * x + b)) (rDg v b - rFr S (7 * x + b)) S), rHm (rForgets n x b (rFr S (7 * x + b)) (rDg v b - rFr S (7 * x + b)) S), rAc (rForgets n x b (rFr S (7 * x + b)) (rDg v b - rFr S (7 * x + b)) S)) := by
  have h := rForgets_eq (n := n) (x := x) (b := b) (k := rFr S (7 * x + b)) (rDg v b - rFr S (7 * x + b)) S
  unfold rFreeC
  generalize rForgets n x b (rFr S (7 * x + b)) (rDg v b - rFr S (7 * x + b)) S = Z at h
  have e1 : rSt Z = rSt S := by rw [h]
  have e2 : rFu Z = rFu S := by rw [h]
  have e3 : rSu Z = rSu S := by rw [h]
  have e4 : rOw Z = rOw S := by rw [h]
  have e5 : rAp Z = rAp S := by rw [h]
  have e6 : rFr Z = rFr S := by rw [h]
  have e7 : rMa Z = rMa S := by rw [h]
  have e8 : rHm Z = rHm S := by rw [h]
  have e9 : rAc Z = rAc S := by rw [h]
  rw [e1, e2, e3, e4, e5, e6, e7, e8, e9]
theorem rDg_lt (v b : Nat) : rDg v b < 8 := Nat.mod_lt _ (by decide)
