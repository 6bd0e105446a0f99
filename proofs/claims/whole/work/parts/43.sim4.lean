/-! Applying: worth and counts -/
def dlt (p : Int64) (c b : Nat) : Int64 := (if payN p = b then lN (amtN p) else 0) - (if c = b then lN (amtN p) else 0)
theorem wAdd_ne {p z : Int64} {c b : Nat} (h : p ≠ 0) : wAdd p c b z = z + dlt p c b := by
  unfold wAdd dlt
  by_cases h1 : payN p = b <;> by_cases h2 : c = b
  · rw [if_pos ⟨h, h1⟩, if_pos ⟨h, h2⟩, if_pos h1, if_pos h2]; grind
  · rw [if_pos ⟨h, h1⟩, if_neg (fun w => h2 w.2), if_pos h1, if_neg h2]; grind
  · rw [if_neg (fun w => h1 w.2), if_pos ⟨h, h2⟩, if_neg h1, if_pos h2]; grind
  · rw [if_neg (fun w => h1 w.2), if_neg (fun w => h2 w.2), if_neg h1, if_neg h2]; grind
theorem wAdd_sh {p z w : Int64} {c b : Nat} : wAdd p c b (z + w) = wAdd p c b z + w := by
  by_cases h : p = 0
  · rw [wAdd_0 h, wAdd_0 h]
  · rw [wAdd_ne h, wAdd_ne h]; grind
theorem rWs_sh {ap : Nat → Int64} {b c : Nat} {z w : Int64} : ∀ k, rWs ap 0 b c (z + w) k = rWs ap 0 b c z k + w
  | 0 => rfl
  | k + 1 => by rw [rWs, rWs, rWs_sh k, wAdd_sh]
theorem rWo_up0 {ap : Nat → Int64} {b c s : Nat} {z p : Int64} (hs : s < 5) : ∀ n, n ≤ c → rWo (va_up ap (c * 5 + s) p) 0 b z n = rWo ap 0 b z n
  | 0, _ => rfl
  | n + 1, h => by
    rw [rWo, rWo, rWo_up0 hs n (by omega)]
    have key : ∀ k, k ≤ 5 → rWs (va_up ap (c * 5 + s) p) 0 b n (rWo ap 0 b z n) k = rWs ap 0 b n (rWo ap 0 b z n) k := by
      intro k
      induction k with
      | zero => intro _; rfl
      | succ k ih => intro hk; rw [rWs, rWs, ih (by omega), up_e (by omega)]
    exact key 5 (Nat.le_refl _)
theorem rWs_up {ap : Nat → Int64} {b c s : Nat} {z p : Int64} (hp : p ≠ 0) (h0 : ap (c * 5 + s) = 0) : ∀ k, k ≤ 5 → rWs (va_up ap (c * 5 + s) p) 0 b c z k = if s < k then rWs ap 0 b c z k + dlt p c b else rWs ap 0 b c z k
  | 0, _ => rfl
  | k + 1, h => by
    rw [rWs, rWs, rWs_up hp h0 k (by omega)]
    by_cases e : s = k
    · subst e
      rw [if_neg (by omega), if_pos (by omega), show (0 * 7 + c) * 5 + s = c * 5 + s by omega, up_s, h0, wAdd_0 rfl, wAdd_ne hp]
    · rw [up_e (show (0 * 7 + c) * 5 + k ≠ c * 5 + s by omega)]
      by_cases e2 : s < k
      · rw [if_pos e2, if_pos (by omega), wAdd_sh]
      · rw [if_neg e2, if_neg (by omega)]
theorem rWo_up {ap : Nat → Int64} {b c s : Nat} {z p : Int64} (hs : s < 5) (hp : p ≠ 0) (h0 : ap (c * 5 + s) = 0) : ∀ n, c < n → rWo (va_up ap (c * 5 + s) p) 0 b z n = rWo ap 0 b z n + dlt p c b
  | 0, h => by omega
  | n + 1, h => by
    rw [rWo, rWo]
    by_cases e : c = n
    · subst e
      rw [rWo_up0 hs c (Nat.le_refl _), rWs_up hp h0 5 (Nat.le_refl _), if_pos hs]
    · rw [rWo_up hs hp h0 n (by omega), rWs_sh]
      congr 1
      have key : ∀ k, k ≤ 5 → rWs (va_up ap (c * 5 + s) p) 0 b n (rWo ap 0 b z n) k = rWs ap 0 b n (rWo ap 0 b z n) k := by
        intro k
        induction k with
        | zero => intro _; rfl
        | succ k ih => intro hk; rw [rWs, rWs, ih (by omega), up_e (by omega)]
      exact key 5 (Nat.le_refl _)
theorem cntB_ltm {m : Nat} : ∀ k, cntB (fun s => decide (s < m)) k = min k m
  | 0 => by simp [cntB]
  | k + 1 => by
    rw [cntB, cntB_ltm k]
    by_cases h : k < m
    · rw [if_pos (decide_eq_true h)]; omega
    · rw [if_neg (by simpa using h)]; omega
theorem lCnt_le (L : LV) (b : Nat) : lCnt L b ≤ 5 := cntB_le _ _
theorem cnt_up {n c : Nat} {p : Int64} {L : LV} (hg : iGap n L) (hc : c < n) (h5 : lCnt L c < 5) (hp : p ≠ 0) : ∀ b, b < n → lCnt (lUpAp L (c * 5 + lCnt L c) p) b = if b = c then lCnt L c + 1 else lCnt L b := by
  intro b hb
  by_cases e : b = c
  · rw [if_pos e, e]
    have : lCnt (lUpAp L (c * 5 + lCnt L c) p) c = cntB (fun s => decide (s < lCnt L c + 1)) 5 := by
      refine cntB_eq (fun s hs => ?_)
      apply decide_eq_decide.mpr
      show va_up (lAp L) (c * 5 + lCnt L c) p (c * 5 + s) ≠ 0 ↔ _
      by_cases e2 : s = lCnt L c
      · rw [e2, up_s]; exact ⟨fun _ => by omega, fun _ => hp⟩
      · rw [up_e (by omega), hg c s hc hs]; omega
    rw [this, cntB_ltm]
    omega
  · rw [if_neg e]
    refine cntB_eq (fun s hs => ?_)
    show decide (va_up (lAp L) (c * 5 + lCnt L c) p (b * 5 + s) ≠ 0) = _
    rw [up_e (by omega)]
theorem gap_up {n c : Nat} {p : Int64} {L : LV} (hg : iGap n L) (hc : c < n) (h5 : lCnt L c < 5) (hp : p ≠ 0) : iGap n (lUpAp L (c * 5 + lCnt L c) p) := by
  intro b s hb hs
  rw [cnt_up hg hc h5 hp b hb]
  show va_up (lAp L) (c * 5 + lCnt L c) p (b * 5 + s) ≠ 0 ↔ _
  by_cases e : b = c
  · subst e
    rw [if_pos rfl]
    by_cases e2 : s = lCnt L b
    · rw [e2, up_s]; exact ⟨fun _ => by omega, fun _ => hp⟩
    · rw [up_e (by omega), hg b s hb hs]; omega
  · rw [if_neg e, up_e (by omega)]
    exact hg b s hb hs
theorem nr_next {n me c : Nat} {z : Int64} {u : NS} {L : LV} (hn : n ≤ 7) (h : NR n z me u L) (hi : NI n me L) (hc : c < n) : nNext u n c = lNxt L n z c := by
  obtain ⟨-, -, ⟨hC, -, hB⟩, -, hA⟩ := h
  obtain ⟨-, -, -, ⟨-, -, -, w4⟩, -⟩ := hi
  unfold nNext lNxt
  rw [hC c hc]
  by_cases h5 : lCnt L c < 5
  · have hi35 : c * 5 + lCnt L c < 35 := by omega
    rw [hA _ hi35]
    by_cases h0 : lAc L (c * 5 + lCnt L c) = 0
    · rw [h0, m1_0, decide_eq_false (show ¬ (0 : Int64) ≠ 0 from fun w => w rfl), Bool.false_and, nVal, if_pos (Or.inl rfl)]
    · have hw := w4 _ hi35 h0
      rw [m1_ne h0, decide_eq_true h0, Bool.true_and]
      congr 1
      unfold nVal lVal
      rw [hB c hc, allB_eq (Q := fun b => decide (needN (lAc L (c * 5 + lCnt L c)) b ≤ lCnt L b)) (fun b hb => by rw [hC b hb])]
      by_cases h2 : rWo (lAp L) 0 c z n < lN (amtN (lAc L (c * 5 + lCnt L c)))
      · rw [if_pos (Or.inr h2), decide_eq_false (Int64.not_le.mpr h2), Bool.and_false]
      · rw [if_neg (fun w => w.elim (wf_n1 hn hw) h2), decide_eq_true (Int64.not_lt.mp h2), Bool.and_true]
  · rw [decide_eq_false h5, Bool.false_and, Bool.false_and]
theorem nr_least {n me : Nat} {z : Int64} {u : NS} {L : LV} (hn : n ≤ 7) (h : NR n z me u L) (hi : NI n me L) : nLeast u n = lLst L n z := fstB_eq (fun _ _ hc => nr_next hn h hi (by omega))
theorem said_ap {L : LV} {me i t : Nat} {p : Int64} (hi : i < 35) (ht : t ≤ 140) (h : t ≠ 105 + i) : lSaid (lUpAp L i p) me t = lSaid L me t := by
  rcases t_cases ht with rfl | ⟨ht1, e | e | e | e⟩
  · rfl
  · rw [said_k ht1, said_k ht1, e, sd_0, sd_0]; rfl
  · rw [said_k ht1, said_k ht1, e, sd_1, sd_1]; rfl
  · rw [said_k ht1, said_k ht1, e, sd_2, sd_2]; rfl
  · rw [said_k ht1, said_k ht1, e, sd_3, sd_3]
    show m1 (va_up (lAp L) i p (t % 35)) = _
    rw [up_e (show t % 35 ≠ i by omega)]
theorem nr_pay {n me c : Nat} {z : Int64} {u : NS} {L : LV} (hn : n ≤ 7) (h : NR n z me u L) (hi : NI n me L) (h1 : ¬ nFu u = 1) (hc : c < n) (h5 : lCnt L c < 5) (h0 : lAc L (c * 5 + lCnt L c) ≠ 0) : NR n z me (sAc (nPay (nWr u (105 + (c * 5 + nCn u c)) (nAc u (c * 5 + nCn u c))) c (nAc u (c * 5 + nCn u c))) (va_up (nAc u) (c * 5 + nCn u c) (-1))) (lUpAp L (c * 5 + lCnt L c) (lAc L (c * 5 + lCnt L c))) := by
  have hi35 : c * 5 + lCnt L c < 35 := by omega
  obtain ⟨⟨e1, e2, e3⟩, hS, ⟨hC, hF, hB⟩, hT, hA⟩ := h
  obtain ⟨-, hg, -, ⟨-, -, -, w4⟩, -⟩ := hi
  have hw := w4 _ hi35 h0
  obtain ⟨hp1, hp2⟩ := wf_pay hw
  rw [show c * 5 + lCnt L c = c * 5 + lCnt L c from rfl, show (c * 5 + lCnt L c) / 5 = c by omega] at hp2
  have hap : lAp L (c * 5 + lCnt L c) = 0 := by
    apply Classical.byContradiction
    intro w
    have := (hg c (lCnt L c) hc h5).mp w
    omega
  rw [hC c hc, hA _ hi35, m1_ne h0, nWr_ne h1]
  generalize hp : lAc L (c * 5 + lCnt L c) = p at *
  refine ⟨⟨e1, congrArg (· - 1) e2, e3⟩, fun t ht => ?_, ⟨fun b hb => ?_, hF, fun b hb => ?_⟩, hT, fun j hj => ?_⟩
  · show va_up (nSa u) (105 + (c * 5 + lCnt L c)) p t = _
    by_cases ht2 : t = 105 + (c * 5 + lCnt L c)
    · rw [ht2, up_s, said_k (by omega), show (105 + (c * 5 + lCnt L c)) / 35 = 3 by omega, show (105 + (c * 5 + lCnt L c)) % 35 = c * 5 + lCnt L c by omega, sd_3]
      show p = m1 (va_up (lAp L) (c * 5 + lCnt L c) p (c * 5 + lCnt L c))
      rw [up_s, m1_ne h0]
    · rw [up_e ht2, said_ap hi35 ht ht2]
      exact hS t ht
  · rw [cnt_up hg hc h5 h0 b hb]
    show va_up (nCn u) c (nCn u c + 1) b = _
    by_cases e : b = c
    · rw [e, up_s, if_pos rfl, hC c hc]
    · rw [up_e e, if_neg e, hC b hb]
  · show va_up (va_up (nBa u) c (nBa u c - lN (amtN p))) (payN p) (va_up (nBa u) c (nBa u c - lN (amtN p)) (payN p) + lN (amtN p)) b = rWo (va_up (lAp L) (c * 5 + lCnt L c) p) 0 b z n
    rw [rWo_up h5 h0 hap n hc, dlt, up_e hp2]
    by_cases e : b = payN p
    · rw [e, up_s, if_pos rfl, if_neg (fun w => hp2 w.symm), hB _ hp1]; grind
    · rw [up_e e, if_neg (fun w => e w.symm)]
      by_cases e4 : b = c
      · rw [e4, up_s, if_pos rfl, hB c hc]; grind
      · rw [up_e e4, if_neg (fun w => e4 w.symm), hB b hb]; grind
  · show va_up (nAc u) (c * 5 + lCnt L c) (-1) j = m1 (va_up (lAc L) (c * 5 + lCnt L c) 0 j)
    by_cases e : j = c * 5 + lCnt L c
    · rw [e, up_s, up_s, m1_0]
    · rw [up_e e, up_e e]; exact hA j hj
theorem ni_pay {n me c : Nat} {L : LV} (hn : n ≤ 7) (hi : NI n me L) (hc : c < n) (h5 : lCnt L c < 5) (h0 : lAc L (c * 5 + lCnt L c) ≠ 0) : NI n me (lUpAp L (c * 5 + lCnt L c) (lAc L (c * 5 + lCnt L c))) := by
  have hi35 : c * 5 + lCnt L c < 35 := by omega
  obtain ⟨⟨h1, h2, h3⟩, hg, hh, ⟨w1, w2, w3, w4⟩, ho, he, hm, hfr, hk⟩ := hi
  have hw := w4 _ hi35 h0
  have hcu := cnt_up hg hc h5 h0
  have hle : ∀ b, b < n → lCnt L b ≤ lCnt (lUpAp L (c * 5 + lCnt L c) (lAc L (c * 5 + lCnt L c))) b := fun b hb => by
    rw [hcu b hb]
    split
    · rename_i e; rw [e]; omega
    · omega
  refine ⟨⟨by show lFu L - 1 ≤ 9; omega, h2, h3⟩, gap_up hg hc h5 h0, fun j a b => ⟨⟨(hh j a b).1.1, (hh j a b).1.2.1, ?_⟩, (hh j a b).2⟩, ⟨w1, w2, up_all w3 (Or.inr hw), up_all w4 (Or.inl rfl)⟩, ho, he, ?_, fun b hb => Nat.le_trans (hfr b hb) (hle b hb), hk⟩
  · show va_up (lAp L) (c * 5 + lCnt L c) _ j = 0
    rw [up_e (by omega)]
    exact (hh j a b).1.2.2
  · rcases hm with h | h
    · exact Or.inl h
    · exact Or.inr ⟨h.1, fun b hb => Nat.le_trans (h.2 b hb) (hle b hb)⟩
theorem sumN_le {F : Nat → Nat} (h : ∀ b, F b ≤ 5) : ∀ n, sumN F n ≤ 5 * n
  | 0 => Nat.le_refl _
  | n + 1 => by have := sumN_le h n; have := h n; rw [sumN]; omega
theorem sumN_all {F : Nat → Nat} (h : ∀ b, F b ≤ 5) : ∀ n, 5 * n ≤ sumN F n → ∀ b, b < n → F b = 5
  | 0, _, b, hb => by omega
  | n + 1, hs, b, hb => by
    rw [sumN] at hs
    have h1 := sumN_le h n
    have h2 := h n
    by_cases e : b = n
    · rw [e]; omega
    · exact sumN_all h n (by omega) b (by omega)
theorem sumN_up {F G : Nat → Nat} {c : Nat} : ∀ n, c < n → (∀ b, b < n → G b = if b = c then F c + 1 else F b) → sumN G n = sumN F n + 1
  | 0, h, _ => by omega
  | n + 1, h, hG => by
    rw [sumN, sumN]
    by_cases e : c = n
    · subst e
      rw [hG c (by omega), if_pos rfl, sumN_eq (Q := F) (fun i hi => by rw [hG i (by omega), if_neg (by omega)])]
      omega
    · rw [sumN_up n (by omega) (fun b hb => hG b (by omega)), hG n (by omega), if_neg (fun w => e w.symm)]
      omega
theorem lst_end {n : Nat} {z : Int64} {L : LV} (hn : n ≤ 7) (h : 35 ≤ sumN (lCnt L) n) : lLst L n z = n := by
  apply Classical.byContradiction
  intro w
  obtain ⟨h1, h2⟩ := lLst_lt w
  have h3 := (lNxt_of h2).1
  have h4 := sumN_le (lCnt_le L) n
  have := sumN_all (lCnt_le L) n (by omega) _ h1
  omega
theorem lApy_s (n : Nat) (z : Int64) (m d : Nat) (L : LV) : lApy n z (m + 1) d L = if lLst L n z = n then (nI d, L) else if lFu L = 1 then (-7, lFall L) else lApy n z m (d + 1) (lStp L n z) := rfl
theorem lApy_fuel {n me : Nat} {z : Int64} (hn : n ≤ 7) : ∀ (m d : Nat) (L : LV), NI n me L → 35 ≤ m + sumN (lCnt L) n → lApy n z (m + 1) d L = lApy n z m d L
  | 0, d, L, _, h => by rw [lApy_s n z 0 d L, if_pos (lst_end hn (by omega)), lApy]
  | m + 1, d, L, hi, h => by
    rw [lApy_s n z (m + 1) d L, lApy_s n z m d L]
    by_cases e : lLst L n z = n
    · rw [if_pos e, if_pos e]
    · rw [if_neg e, if_neg e]
      by_cases e1 : lFu L = 1
      · rw [if_pos e1, if_pos e1]
      · rw [if_neg e1, if_neg e1]
        obtain ⟨h1, h2⟩ := lLst_lt e
        obtain ⟨h3, h4, -⟩ := lNxt_of h2
        refine lApy_fuel (me := me) hn m (d + 1) _ (ni_pay hn hi h1 h3 h4) ?_
        have := sumN_up n h1 (cnt_up hi.2.1 h1 h3 h4)
        unfold lStp
        omega
theorem nr_apply {n me : Nat} {z : Int64} (hn : n ≤ 7) : ∀ (m d : Nat) (u : NS) (L : LV), NR n z me u L → NI n me L → (nApply n m d u).1 = (lApy n z m d L).1 ∧ NR n z me (nApply n m d u).2 (lApy n z m d L).2 ∧ NI n me (lApy n z m d L).2
  | 0, _, _, _, h, hi => ⟨rfl, h, hi⟩
  | m + 1, d, u, L, h, hi => by
    rw [nApply, lApy, nr_least hn h hi]
    by_cases e : lLst L n z = n
    · rw [if_pos e, if_pos e]; exact ⟨rfl, h, hi⟩
    · rw [if_neg e, if_neg e, h.1.2.1]
      by_cases e1 : lFu L = 1
      · rw [if_pos e1, if_pos e1]; exact ⟨rfl, nr_down h, ni_fall hi⟩
      · rw [if_neg e1, if_neg e1]
        obtain ⟨h1, h2⟩ := lLst_lt e
        obtain ⟨h3, h4, -⟩ := lNxt_of h2
        exact nr_apply hn m (d + 1) _ _ (nr_pay hn h hi (by rw [h.1.2.1]; exact e1) h1 h3 h4) (ni_pay hn hi h1 h3 h4)
