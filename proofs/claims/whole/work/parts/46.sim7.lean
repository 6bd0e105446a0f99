/-! Integrity: what a correct node has of a correct account, that account submitted -/
def LI (n : Nat) (st su : Nat → Nat) (L : LV) : Prop := ∀ a s, a < n → st a ≠ 2 → s < 5 →
  (lEc L (a * 5 + s) ≠ 0 ∨ lRe L (a * 5 + s) ≠ 0 ∨ lAp L (a * 5 + s) ≠ 0 ∨ lAc L (a * 5 + s) ≠ 0 → s < su a) ∧
  ∀ k y, 1 ≤ k → k ≤ 3 → y < n → st y ≠ 2 → lHe L (lHi k (a * 5 + s) y) ≠ 0 → s < su a
theorem li_mono {n : Nat} {st su st' su' : Nat → Nat} {L : LV} (h : LI n st su L) (h1 : ∀ a, a < n → st' a ≠ 2 → st a ≠ 2) (h2 : ∀ a, a < n → su a ≤ su' a) : LI n st' su' L := by
  intro a s ha hs h5
  have h3 := h a s ha (h1 a ha hs) h5
  have h4 := h2 a ha
  exact ⟨fun w => by have := h3.1 w; omega, fun k y k1 k2 hy hy2 w => by have := h3.2 k y k1 k2 hy (h1 y hy hy2) w; omega⟩
/-- a smaller L keeps it -/
theorem li_sub {n : Nat} {st su : Nat → Nat} {L L' : LV} (h : LI n st su L) (h1 : ∀ i, i < 35 → (lEc L' i ≠ 0 → lEc L i ≠ 0) ∧ (lRe L' i ≠ 0 → lRe L i ≠ 0) ∧ (lAp L' i ≠ 0 → lAp L i ≠ 0) ∧ (lAc L' i ≠ 0 → lAc L i ≠ 0)) (h2 : ∀ j, lHe L' j ≠ 0 → lHe L j ≠ 0) (hn : n ≤ 7) : LI n st su L' := by
  intro a s ha hs h5
  obtain ⟨e1, e2, e3, e4⟩ := h1 (a * 5 + s) (by omega)
  refine ⟨fun w => (h a s ha hs h5).1 ?_, fun k y k1 k2 hy hy2 w => (h a s ha hs h5).2 k y k1 k2 hy hy2 (h2 _ w)⟩
  rcases w with w | w | w | w
  · exact Or.inl (e1 w)
  · exact Or.inr (Or.inl (e2 w))
  · exact Or.inr (Or.inr (Or.inl (e3 w)))
  · exact Or.inr (Or.inr (Or.inr (e4 w)))
theorem li_fall {n : Nat} {st su : Nat → Nat} {L : LV} (hn : n ≤ 7) (h : LI n st su L) : LI n st su (lFall L) :=
  li_sub h (fun _ _ => ⟨id, id, id, fun w => absurd rfl w⟩) (fun _ w => absurd rfl w) hn
theorem up_ne {g : Nat → Int64} {i j : Nat} {p : Int64} (h : va_up g i p j ≠ 0) : j = i ∨ g j ≠ 0 := by
  by_cases e : j = i
  · exact Or.inl e
  · rw [up_e e] at h; exact Or.inr h
theorem li_ec {n i : Nat} {p : Int64} {st su : Nat → Nat} {L : LV} (h : LI n st su L) (hi : st (i / 5) ≠ 2 → i % 5 < su (i / 5)) : LI n st su (lUpEc L i p) := by
  intro a s ha hs h5
  refine ⟨fun w => ?_, (h a s ha hs h5).2⟩
  rcases w with w | w
  · rcases up_ne w with e | e
    · subst e
      rw [show (a * 5 + s) / 5 = a by omega, show (a * 5 + s) % 5 = s by omega] at hi
      exact hi hs
    · exact (h a s ha hs h5).1 (Or.inl e)
  · exact (h a s ha hs h5).1 (Or.inr w)
theorem li_re {n i : Nat} {p : Int64} {st su : Nat → Nat} {L : LV} (h : LI n st su L) (hi : st (i / 5) ≠ 2 → i % 5 < su (i / 5)) : LI n st su (lUpRe L i p) := by
  intro a s ha hs h5
  refine ⟨fun w => ?_, (h a s ha hs h5).2⟩
  rcases w with w | w | w
  · exact (h a s ha hs h5).1 (Or.inl w)
  · rcases up_ne w with e | e
    · subst e
      rw [show (a * 5 + s) / 5 = a by omega, show (a * 5 + s) % 5 = s by omega] at hi
      exact hi hs
    · exact (h a s ha hs h5).1 (Or.inr (Or.inl e))
  · exact (h a s ha hs h5).1 (Or.inr (Or.inr w))
theorem li_ac {n i : Nat} {p : Int64} {st su : Nat → Nat} {L : LV} (h : LI n st su L) (hi : st (i / 5) ≠ 2 → i % 5 < su (i / 5)) : LI n st su (lUpAc L i p) := by
  intro a s ha hs h5
  refine ⟨fun w => ?_, (h a s ha hs h5).2⟩
  rcases w with w | w | w | w
  · exact (h a s ha hs h5).1 (Or.inl w)
  · exact (h a s ha hs h5).1 (Or.inr (Or.inl w))
  · exact (h a s ha hs h5).1 (Or.inr (Or.inr (Or.inl w)))
  · rcases up_ne w with e | e
    · subst e
      rw [show (a * 5 + s) / 5 = a by omega, show (a * 5 + s) % 5 = s by omega] at hi
      exact hi hs
    · exact (h a s ha hs h5).1 (Or.inr (Or.inr (Or.inr e)))
theorem li_ap {n i : Nat} {p : Int64} {st su : Nat → Nat} {L : LV} (h : LI n st su L) (hi : st (i / 5) ≠ 2 → i % 5 < su (i / 5)) : LI n st su (lUpAp L i p) := by
  intro a s ha hs h5
  refine ⟨fun w => ?_, (h a s ha hs h5).2⟩
  rcases w with w | w | w | w
  · exact (h a s ha hs h5).1 (Or.inl w)
  · exact (h a s ha hs h5).1 (Or.inr (Or.inl w))
  · rcases up_ne w with e | e
    · subst e
      rw [show (a * 5 + s) / 5 = a by omega, show (a * 5 + s) % 5 = s by omega] at hi
      exact hi hs
    · exact (h a s ha hs h5).1 (Or.inr (Or.inr (Or.inl e)))
  · refine (h a s ha hs h5).1 (Or.inr (Or.inr (Or.inr ?_)))
    have w' : va_up (lAc L) i 0 (a * 5 + s) ≠ 0 := w
    by_cases e : a * 5 + s = i
    · rw [e, up_s] at w'; exact absurd rfl w'
    · rw [up_e e] at w'; exact w'
theorem li_he {n k i y : Nat} {p : Int64} {st su : Nat → Nat} {L : LV} (hn : n ≤ 7) (h : LI n st su L) (hk : 1 ≤ k) (hi35 : i < 35) (hy : y < n) (hi : st y ≠ 2 → st (i / 5) ≠ 2 → i % 5 < su (i / 5)) : LI n st su (lUpHe L (lHi k i y) p) := by
  intro a s ha hs h5
  refine ⟨(h a s ha hs h5).1, fun k' y' k1 k2 hy' hy2 w => ?_⟩
  rcases up_ne w with e | e
  · obtain ⟨e1, e2, e3⟩ := lHi_inj hi35 (by omega) (by omega) (by omega) e
    subst e1
    subst e3
    rw [show (a * 5 + s) / 5 = a by omega, show (a * 5 + s) % 5 = s by omega] at hi
    exact hi hy2 hs
  · exact (h a s ha hs h5).2 k' y' k1 k2 hy' hy2 e
theorem cnt_mono {P Q : Nat → Bool} : ∀ {n : Nat}, (∀ y, y < n → P y = true → Q y = true) → cntB P n ≤ cntB Q n
  | 0, _ => Nat.le_refl _
  | n + 1, h => by
    have ih := cnt_mono (P := P) (Q := Q) (n := n) (fun y hy => h y (by omega))
    rw [cntB, cntB]
    by_cases e : P n = true
    · rw [if_pos e, if_pos (h n (by omega) e)]; omega
    · rw [if_neg e]; omega
/-- more tellers than faulty nodes: a correct one among them -/
theorem cnt_good {P : Nat → Bool} {st : Nat → Nat} {n f : Nat} (hf : cntB (fun y => decide (st y = 2)) n ≤ f) (h : f < cntB P n) : ∃ y, y < n ∧ P y = true ∧ st y ≠ 2 := by
  apply Classical.byContradiction
  intro w
  have : cntB P n ≤ cntB (fun y => decide (st y = 2)) n := cnt_mono (fun y hy hp => by
    apply decide_eq_true
    apply Classical.byContradiction
    exact fun w2 => w ⟨y, hy, hp, w2⟩)
  omega
theorem many_good {n f k i : Nat} {p : Int64} {st su : Nat → Nat} {L : LV} (h : LI n st su L) (hf : cntB (fun y => decide (st y = 2)) n ≤ f) (hk : 1 ≤ k) (hk3 : k ≤ 3) (hi : i < 5 * n) (hp : p ≠ 0) (hm : f < lMany L n k i p) : st (i / 5) ≠ 2 → i % 5 < su (i / 5) := by
  intro hs
  obtain ⟨y, hy, e, hg⟩ := cnt_good hf hm
  have e2 : lHe L (((k - 1) * 35 + i) * 7 + y) = p := of_decide_eq_true e
  refine (h (i / 5) (i % 5) (by omega) hs (by omega)).2 k y hk hk3 hy hg ?_
  rw [show i / 5 * 5 + i % 5 = i by omega]
  unfold lHi
  rw [e2]
  exact hp
theorem li_apy {n : Nat} {z : Int64} {st su : Nat → Nat} (hn : n ≤ 7) : ∀ (m d : Nat) (L : LV), LI n st su L → LI n st su (lApy n z m d L).2
  | 0, _, _, h => h
  | m + 1, d, L, h => by
    rw [lApy_s]
    by_cases e : lLst L n z = n
    · rw [if_pos e]; exact h
    · rw [if_neg e]
      by_cases e1 : lFu L = 1
      · rw [if_pos e1]; exact li_fall hn h
      · rw [if_neg e1]
        obtain ⟨h1, h2⟩ := lLst_lt e
        obtain ⟨h3, h4, -⟩ := lNxt_of h2
        refine li_apy hn m (d + 1) _ (li_ap h (fun hs => ?_))
        rw [show (lLst L n z * 5 + lCnt L (lLst L n z)) / 5 = lLst L n z by omega] at hs ⊢
        rw [show (lLst L n z * 5 + lCnt L (lLst L n z)) % 5 = lCnt L (lLst L n z) by omega]
        exact (h _ _ h1 hs h3).1 (Or.inr (Or.inr (Or.inr h4)))
theorem li_freeTo {n v : Nat} {st su : Nat → Nat} (hn : n ≤ 7) {L : LV} (h : LI n st su L) : ∀ k, LI n st su (lFreeTo n v k L)
  | 0 => h
  | k + 1 => by
    rw [lFreeTo, lFreeC_eq]
    refine li_sub (li_freeTo hn h k) (fun i _ => ⟨fun w => (fgE_ne w).2, fun w => (fgE_ne w).2, id, id⟩) (fun j w => ?_) hn
    have w' : fgG n (lHe (lFreeTo n v k L)) _ _ j ≠ 0 := w
    unfold fgG at w'
    split at w'
    · exact absurd rfl w'
    · exact w'
theorem li_rv {n f y t : Nat} {z p : Int64} {st su : Nat → Nat} {L : LV} (hn : n ≤ 7) (hfn : f ≤ n) (h : LI n st su L) (hf : cntB (fun y => decide (st y = 2)) n ≤ f) (hy : y < n) (ht : t = 140 ∨ (t < 140 ∧ t % 35 < 5 * n)) (hok : t < 140 → st y ≠ 2 → st (t % 35 / 5) ≠ 2 → t % 35 % 5 < su (t % 35 / 5)) : LI n st su (lRv L n f z y t p).2 := by
  unfold lRv
  by_cases h2 : lObj L n y t p = 0
  · have hnn : ¬ ¬ lObj L n y t p = 0 := fun w => w h2
    rw [if_neg hnn]
    rcases ht with rfl | ⟨ht, hb⟩
    · rw [if_pos rfl]
      show LI n st su (lRel (lUpHm L y (pn p + 1)) n f)
      unfold lRel
      split
      · exact h
      · exact li_freeTo hn (L := lUpHm L y (pn p + 1)) h n
    · rw [if_neg (by omega)]
      obtain ⟨o1, o2, o3⟩ := lObj_ok ht h2
      have hp := wf_ne o1
      unfold lTk
      by_cases h0 : t / 35 = 0
      · rw [if_pos h0]
        by_cases h1 : lFu L = 1
        · rw [if_pos h1]; exact li_fall hn h
        · rw [if_neg h1]
          refine li_ec (L := lBurn L) h (fun hs => hok ht ?_ hs)
          rw [o2 h0]; exact hs
      · rw [if_neg h0]
        have hV : LI n st su (lUpHe L (lHi (t / 35) (t % 35) y) p) := li_he hn h (by omega) (by omega) hy (hok ht)
        generalize lUpHe L (lHi (t / 35) (t % 35) y) p = V at hV ⊢
        by_cases h1 : lRdy V n f (t / 35) (t % 35) p = true ∧ lFu L = 1
        · rw [if_pos h1]; exact li_fall hn hV
        · rw [if_neg h1]
          apply li_apy hn
          have hZ : LI n st su (lMid V n f (t / 35) (t % 35) p) := by
            unfold lMid
            by_cases h3 : lRdy V n f (t / 35) (t % 35) p = true
            · rw [if_pos h3]
              refine li_re (L := lBurn V) hV ?_
              simp only [lRdy, Bool.and_eq_true, Bool.or_eq_true, decide_eq_true_eq] at h3
              rcases h3.2 with w | w
              · exact many_good hV hf (by omega) (by omega) hb hp (by have := w.2; omega : f < lMany V n 1 (t % 35) p)
              · exact many_good hV hf (by omega) (by omega) hb hp (by have := w.2; omega : f < lMany V n 2 (t % 35) p)
            · rw [if_neg h3]; exact hV
          generalize lMid V n f (t / 35) (t % 35) p = W at hZ ⊢
          unfold lAcq
          by_cases h3 : lAq W n f (t % 35) p = true
          · rw [if_pos h3]
            refine li_ac hZ ?_
            simp only [lAq, Bool.and_eq_true, Bool.or_eq_true, decide_eq_true_eq] at h3
            rcases h3.2.2 with w | w
            · exact many_good hZ hf (by omega) (by omega) hb hp (by omega : f < lMany W n 2 (t % 35) p)
            · exact many_good hZ hf (by omega) (by omega) hb hp (by omega : f < lMany W n 3 (t % 35) p)
          · rw [if_neg h3]; exact hZ
  · rw [if_pos h2]; exact h
