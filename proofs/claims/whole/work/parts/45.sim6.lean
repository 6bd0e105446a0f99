/-! Receiving, class against reference -/
theorem tell_of {n me k i : Nat} {z p : Int64} {u : NS} {L : LV} (h : NR n z me u L) (hk : 1 ≤ k) (hk3 : k ≤ 3) (hi : i < 35) (h0 : p ≠ 0) (h1 : p ≠ -1) : nTellOf u (k * 35 + i) p n = lMany L n k i p := by
  refine cntB_eq (fun y hy => ?_)
  apply decide_eq_decide.mpr
  rw [h.2.2.2.1.1 k i y hk hk3 hi hy]
  exact m1_eq h0 h1
theorem sa_ec {n me i : Nat} {z : Int64} {u : NS} {L : LV} (hn : n ≤ 7) (h : NR n z me u L) (hI : NI n me L) (hi : i < 35) (hf : lFr L (i / 5) < i % 5 + 1) : nSa u (35 + i) = -1 ↔ lEc L i = 0 := by
  rw [h.2.1 _ (by omega), said_k (by omega), show (35 + i) / 35 = 1 by omega, show (35 + i) % 35 = i by omega, sd_1, if_pos hf]
  refine m1_is (fun w => ?_)
  by_cases e : lEc L i = 0
  · rw [e] at w; exact absurd w (by decide)
  · exact wf_n1 hn (hI.2.2.2.1.1 i hi e) w
theorem sa_re {n me i : Nat} {z : Int64} {u : NS} {L : LV} (hn : n ≤ 7) (h : NR n z me u L) (hI : NI n me L) (hi : i < 35) (hf : lFr L (i / 5) < i % 5 + 1) : nSa u (70 + i) = -1 ↔ lRe L i = 0 := by
  rw [h.2.1 _ (by omega), said_k (by omega), show (70 + i) / 35 = 2 by omega, show (70 + i) % 35 = i by omega, sd_2, if_pos hf]
  refine m1_is (fun w => ?_)
  by_cases e : lRe L i = 0
  · rw [e] at w; exact absurd w (by decide)
  · exact wf_n1 hn (hI.2.2.2.1.2.1 i hi e) w
theorem sim_obj {n me t y : Nat} {z p : Int64} {u : NS} {L : LV} (hn : n ≤ 7) (h : NR n z me u L) (hI : NI n me L) (hy : y < n) (ht : t = 140 ∨ (t < 140 ∧ t % 35 < 5 * n)) : (if nWf t p n = false then -3 else nObj u t y p) = lObj L n y t p := by
  rcases ht with rfl | ⟨ht, hb⟩
  · show (if isMk p n = false then -3 else if nTo u (140 * 7 + y) = p then -6 else 0) = (if isMk p n = false then -3 else if lN (lHm L y) = p + 1 then -6 else 0)
    by_cases h1 : isMk p n = false
    · rw [if_pos h1, if_pos h1]
    · rw [if_neg h1, if_neg h1, show 140 * 7 + y = 980 + y by omega, h.2.2.2.1.2 y hy]
      by_cases h2 : lN (lHm L y) = p + 1
      · rw [if_pos h2, if_pos (by rw [h2]; exact Int64.add_sub_cancel _ _)]
      · rw [if_neg h2, if_neg (fun w => h2 (by rw [← w]; grind))]
  · unfold nWf nObj lObj lOb
    rw [if_neg (show ¬ t = 140 by omega), if_neg (show ¬ t = 140 by omega), if_neg (show ¬ t / 35 = 4 by omega)]
    by_cases h1 : wfP p (t % 35 / 5) n = false
    · rw [if_pos h1, if_pos h1]
    · rw [if_neg h1, if_neg h1]
      by_cases h2 : t / 35 = 0 ∧ y ≠ t % 35 / 5
      · rw [if_pos h2, if_pos h2]
      · rw [if_neg h2, if_neg h2, h.2.2.1.2.1 _ (by omega), show t % 35 % 5 = t % 5 by omega]
        by_cases h3 : t % 5 + 1 ≤ lFr L (t % 35 / 5)
        · rw [if_pos h3, if_pos h3]
        · rw [if_neg h3, if_neg h3]
          by_cases h4 : t / 35 = 0
          · rw [if_pos h4, if_pos h4]
            have := sa_ec hn h hI (i := t % 35) (by omega) (by omega)
            by_cases h5 : lEc L (t % 35) = 0
            · rw [if_pos h5, if_pos (this.mpr h5)]
            · rw [if_neg h5, if_neg (fun w => h5 (this.mp w))]
          · rw [if_neg h4, if_neg h4]
            have e : nTo u (t * 7 + y) = m1 (lHe L (lHi (t / 35) (t % 35) y)) := by
              rw [← h.2.2.2.1.1 (t / 35) (t % 35) y (by omega) (by omega) (by omega) hy, show (t / 35 * 35 + t % 35) * 7 + y = t * 7 + y by omega]
            have := m1_is (hI.2.2.2.2.2.1 (lHi (t / 35) (t % 35) y))
            rw [e]
            by_cases h5 : lHe L (lHi (t / 35) (t % 35) y) = 0
            · rw [if_pos h5, if_pos (this.mpr h5)]
            · rw [if_neg h5, if_neg (fun w => h5 (this.mp w))]
theorem lObj_ok {n y t : Nat} {p : Int64} {L : LV} (ht : t < 140) (h : lObj L n y t p = 0) : wfP p (t % 35 / 5) n = true ∧ (t / 35 = 0 → y = t % 35 / 5) ∧ lFr L (t % 35 / 5) < t % 35 % 5 + 1 := by
  unfold lObj lOb at h
  rw [if_neg (by omega)] at h
  by_cases h1 : wfP p (t % 35 / 5) n = false
  · rw [if_pos h1] at h; exact absurd h (by decide)
  · rw [if_neg h1] at h
    by_cases h2 : t / 35 = 0 ∧ y ≠ t % 35 / 5
    · rw [if_pos h2] at h; exact absurd h (by decide)
    · rw [if_neg h2] at h
      by_cases h3 : t % 35 % 5 + 1 ≤ lFr L (t % 35 / 5)
      · rw [if_pos h3] at h; exact absurd h (by decide)
      · refine ⟨by simpa using h1, fun e => ?_, by omega⟩
        apply Classical.byContradiction
        exact fun w => h2 ⟨e, w⟩
theorem sim_rdy {n f me k i : Nat} {z p : Int64} {u : NS} {L : LV} (hn : n ≤ 7) (h : NR n z me u L) (hI : NI n me L) (hi : i < 35) (hf : lFr L (i / 5) < i % 5 + 1) (hp : wfP p (i / 5) n = true) : nRdy u n f k i p = lRdy L n f k i p := by
  have h1 := sa_re hn h hI hi hf
  unfold nRdy lRdy
  rw [tell_of (k := 1) h (by omega) (by omega) hi (wf_ne hp) (wf_n1 hn hp), show 70 + i = 2 * 35 + i by omega, tell_of (k := 2) h (by omega) (by omega) hi (wf_ne hp) (wf_n1 hn hp), show 2 * 35 + i = 70 + i by omega]
  by_cases h2 : lRe L i = 0
  · rw [if_neg (fun w => w (h1.mpr h2)), decide_eq_true h2, Bool.true_and]
    by_cases h3 : k = 1
    · rw [if_pos h3, decide_eq_true h3, h3]; simp
    · rw [if_neg h3, decide_eq_false h3, Bool.false_and, Bool.false_or]
  · rw [if_pos (fun w => h2 (h1.mp w)), decide_eq_false h2, Bool.false_and]
theorem sim_aq {n f me i : Nat} {z p : Int64} {u : NS} {L : LV} (hn : n ≤ 7) (h : NR n z me u L) (hI : NI n me L) (hi : i < 5 * n) (hp : wfP p (i / 5) n = true) : nAcq u n f i p = lAq L n f i p := by
  unfold nAcq lAq
  have e1 := tell_of (k := 2) (i := i) h (by omega) (by omega) (by omega) (wf_ne hp) (wf_n1 hn hp)
  have e2 := tell_of (k := 3) (i := i) h (by omega) (by omega) (by omega) (wf_ne hp) (wf_n1 hn hp)
  rw [show 70 + i = 2 * 35 + i by omega, show 105 + i = 3 * 35 + i by omega, e1, e2, show i % 35 / 5 = i / 5 by omega, h.2.2.1.1 _ (by omega), h.2.2.2.2 i (by omega)]
  by_cases h1 : lCnt L (i / 5) < i % 5 + 1
  · by_cases h2 : lAc L i = 0
    · rw [h2, m1_0, decide_eq_true h1, decide_eq_true rfl, if_neg (fun w => w.elim (fun a => by omega) (fun a => a rfl)), Bool.true_and, Bool.true_and]
    · rw [m1_ne h2, decide_eq_false h2, Bool.false_and, Bool.and_false, if_pos (Or.inr (wf_n1 hn (hI.2.2.2.1.2.2.2 i (by omega) h2)))]
  · rw [decide_eq_false h1, Bool.false_and, if_pos (Or.inl (by omega))]
theorem sim_take {n f me k i y : Nat} {z p : Int64} {u : NS} {L : LV} (hn : n ≤ 7) (h : NR n z me u L) (hI : NI n me L) (hy : y < n) (hk : k ≤ 3) (hi : i < 5 * n) (hf : lFr L (i / 5) < i % 5 + 1) (hp : wfP p (i / 5) n = true) :
    (nTake u n f (k * 35 + i) y p).1 = (lTk L n f z y k i p).1 ∧ NR n z me (nTake u n f (k * 35 + i) y p).2 (lTk L n f z y k i p).2 ∧ NI n me (lTk L n f z y k i p).2 := by
  have hi35 : i < 35 := by omega
  unfold nTake lTk
  rw [show (k * 35 + i) / 35 = k by omega, show (k * 35 + i) % 35 = i by omega]
  by_cases h0 : k = 0
  · rw [if_pos h0, if_pos h0, h.1.2.1]
    by_cases h1 : lFu L = 1
    · rw [if_pos h1, if_pos h1]
      refine ⟨rfl, ?_, ni_fall hI⟩
      show NR n z me (nWr u (35 + i) p) (lFall L)
      rw [nWr, if_pos (h.1.2.1.trans h1)]
      exact nr_down h
    · rw [if_neg h1, if_neg h1]
      exact ⟨rfl, nr_ec h (fun w => h1 (h.1.2.1.symm.trans w)) hi35 hf (wf_ne hp), ni_ec (ni_burn hI) hi hf hp⟩
  · rw [if_neg h0, if_neg h0]
    have hV := nr_he (k := k) (i := i) (y := y) (p := p) hn h (by omega) hk hi35 hy (wf_ne hp)
    have hVI := ni_he (k := k) (i := i) (y := y) (p := p) hn hI (by omega) hk hi hy (wf_n1 hn hp)
    have hVf : lFr (lUpHe L (lHi k i y) p) (i / 5) < i % 5 + 1 := hf
    have hVF : lFu (lUpHe L (lHi k i y) p) = lFu L := rfl
    show (if k = 4 then _ else if nRdy (sTo u (va_up (nTo u) ((k * 35 + i) * 7 + y) p)) n f k i p = true ∧ nFu (sTo u (va_up (nTo u) ((k * 35 + i) * 7 + y) p)) = 1 then _ else nApply n 35 0 (if nAcq (if nRdy (sTo u (va_up (nTo u) ((k * 35 + i) * 7 + y) p)) n f k i p = true then nWr (sTo u (va_up (nTo u) ((k * 35 + i) * 7 + y) p)) (70 + i) p else (sTo u (va_up (nTo u) ((k * 35 + i) * 7 + y) p))) n f i p = true then sAc (if nRdy (sTo u (va_up (nTo u) ((k * 35 + i) * 7 + y) p)) n f k i p = true then nWr (sTo u (va_up (nTo u) ((k * 35 + i) * 7 + y) p)) (70 + i) p else (sTo u (va_up (nTo u) ((k * 35 + i) * 7 + y) p))) (va_up (nAc (if nRdy (sTo u (va_up (nTo u) ((k * 35 + i) * 7 + y) p)) n f k i p = true then nWr (sTo u (va_up (nTo u) ((k * 35 + i) * 7 + y) p)) (70 + i) p else (sTo u (va_up (nTo u) ((k * 35 + i) * 7 + y) p)))) i p) else (if nRdy (sTo u (va_up (nTo u) ((k * 35 + i) * 7 + y) p)) n f k i p = true then nWr (sTo u (va_up (nTo u) ((k * 35 + i) * 7 + y) p)) (70 + i) p else (sTo u (va_up (nTo u) ((k * 35 + i) * 7 + y) p))))).1 = _ ∧ NR n z me (if k = 4 then _ else if nRdy (sTo u (va_up (nTo u) ((k * 35 + i) * 7 + y) p)) n f k i p = true ∧ nFu (sTo u (va_up (nTo u) ((k * 35 + i) * 7 + y) p)) = 1 then _ else nApply n 35 0 (if nAcq (if nRdy (sTo u (va_up (nTo u) ((k * 35 + i) * 7 + y) p)) n f k i p = true then nWr (sTo u (va_up (nTo u) ((k * 35 + i) * 7 + y) p)) (70 + i) p else (sTo u (va_up (nTo u) ((k * 35 + i) * 7 + y) p))) n f i p = true then sAc (if nRdy (sTo u (va_up (nTo u) ((k * 35 + i) * 7 + y) p)) n f k i p = true then nWr (sTo u (va_up (nTo u) ((k * 35 + i) * 7 + y) p)) (70 + i) p else (sTo u (va_up (nTo u) ((k * 35 + i) * 7 + y) p))) (va_up (nAc (if nRdy (sTo u (va_up (nTo u) ((k * 35 + i) * 7 + y) p)) n f k i p = true then nWr (sTo u (va_up (nTo u) ((k * 35 + i) * 7 + y) p)) (70 + i) p else (sTo u (va_up (nTo u) ((k * 35 + i) * 7 + y) p)))) i p) else (if nRdy (sTo u (va_up (nTo u) ((k * 35 + i) * 7 + y) p)) n f k i p = true then nWr (sTo u (va_up (nTo u) ((k * 35 + i) * 7 + y) p)) (70 + i) p else (sTo u (va_up (nTo u) ((k * 35 + i) * 7 + y) p))))).2 _ ∧ _
    generalize sTo u (va_up (nTo u) ((k * 35 + i) * 7 + y) p) = v at hV ⊢
    generalize lUpHe L (lHi k i y) p = V at hV hVI hVf hVF ⊢
    rw [if_neg (show ¬ k = 4 by omega), sim_rdy hn hV hVI hi35 hVf hp, hV.1.2.1, ← hVF]
    by_cases h1 : lRdy V n f k i p = true ∧ lFu V = 1
    · rw [if_pos h1, if_pos h1]
      exact ⟨rfl, nr_down hV, ni_fall hVI⟩
    · rw [if_neg h1, if_neg h1]
      have hZ : NR n z me (if lRdy V n f k i p = true then nWr v (70 + i) p else v) (lMid V n f k i p) ∧ NI n me (lMid V n f k i p) := by
        unfold lMid
        by_cases h2 : lRdy V n f k i p = true
        · rw [if_pos h2, if_pos h2]
          exact ⟨nr_re hV (fun w => h1 ⟨h2, hV.1.2.1.symm.trans w⟩) hi35 hVf (wf_ne hp), ni_re (ni_burn hVI) hi hVf hp⟩
        · rw [if_neg h2, if_neg h2]; exact ⟨hV, hVI⟩
      generalize (if lRdy V n f k i p = true then nWr v (70 + i) p else v) = w at hZ ⊢
      generalize lMid V n f k i p = W at hZ ⊢
      have hQ : NR n z me (if nAcq w n f i p = true then sAc w (va_up (nAc w) i p) else w) (lAcq W n f i p) ∧ NI n me (lAcq W n f i p) := by
        unfold lAcq
        rw [sim_aq hn hZ.1 hZ.2 hi hp]
        by_cases h2 : lAq W n f i p = true
        · rw [if_pos h2, if_pos h2]
          have := nr_ac (i := i) (p := p) hZ.1
          rw [m1_ne (wf_ne hp)] at this
          exact ⟨this, ni_ac hZ.2 (Or.inr hp)⟩
        · rw [if_neg h2, if_neg h2]; exact hZ
      have hA := nr_apply hn 35 0 _ _ hQ.1 hQ.2
      rw [← lApy_fuel (me := me) hn 35 0 _ hQ.2 (by omega)] at hA
      exact hA
theorem isMk_lt {p : Int64} {n : Nat} (hn : n ≤ 7) (h : isMk p n = true) : pn p + 1 ≤ 2097152 := by
  simp only [isMk, Bool.and_eq_true, decide_eq_true_eq] at h
  have : 2 ^ (3 * n) ≤ 2 ^ 21 := Nat.pow_le_pow_right (by decide) (by omega)
  have h1 := h.1
  omega
theorem sim_recv {n f me t y : Nat} {z p : Int64} {u : NS} {L : LV} (hn : n ≤ 7) (h : NR n z me u L) (hI : NI n me L) (hy : y < n) (ht : t = 140 ∨ (t < 140 ∧ t % 35 < 5 * n)) :
    (nRecv u n f t y p).1 = (lRv L n f z y t p).1 ∧ NR n z me (nRecv u n f t y p).2 (lRv L n f z y t p).2 ∧ NI n me (lRv L n f z y t p).2 := by
  have ho := sim_obj (p := p) hn h hI hy ht
  unfold nRecv lRv
  by_cases h1 : nWf t p n = false
  · rw [if_pos h1] at ho ⊢
    rw [← ho, if_pos (by decide)]
    exact ⟨rfl, h, hI⟩
  · rw [if_neg h1] at ho ⊢
    rw [ho]
    by_cases h2 : lObj L n y t p = 0
    · have hnn : ¬ ¬ lObj L n y t p = 0 := fun w => w h2
      rw [if_pos h2, if_neg hnn]
      rcases ht with rfl | ⟨ht, hb⟩
      · rw [if_pos rfl]
        have e : nTake u n f 140 y p = (0, nFree (sTo u (va_up (nTo u) (140 * 7 + y) p)) n f) := rfl
        rw [e]
        have hm : isMk p n = true := by
          have : nWf 140 p n = isMk p n := rfl
          rw [this] at h1
          simpa using h1
        have := sim_free (f := f) hn (nr_hm (p := p) hn h hy) (ni_hm (y := y) (v := pn p + 1) hI (isMk_lt hn hm))
        exact ⟨rfl, this.1, this.2⟩
      · rw [if_neg (by omega)]
        obtain ⟨o1, o2, o3⟩ := lObj_ok ht h2
        have := sim_take (f := f) (k := t / 35) (i := t % 35) hn h hI hy (by omega) hb o3 o1
        rw [show t / 35 * 35 + t % 35 = t by omega] at this
        exact this
    · rw [if_neg h2, if_pos h2]
      exact ⟨rfl, h, hI⟩
