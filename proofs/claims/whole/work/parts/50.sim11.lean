/-! Corrupting, marking, and the readers: class against reference -/
theorem cnt_one {st : Nat → Nat} {x : Nat} (h2 : st x ≠ 2) : ∀ n, x < n → cntB (fun y => decide (va_up st x 2 y = 2)) n = cntB (fun y => decide (st y = 2)) n + 1
  | 0, h => by omega
  | n + 1, h => by
    rw [cntB, cntB]
    by_cases e : x = n
    · subst e
      have e1 : cntB (fun y => decide (va_up st x 2 y = 2)) x = cntB (fun y => decide (st y = 2)) x := cntB_eq (fun y hy => by rw [up_e (by omega)])
      rw [e1, if_pos (decide_eq_true up_s), if_neg (by simpa using h2)]
    · rw [cnt_one h2 n (by omega), up_e (fun w => e w.symm)]
      omega
theorem sim_corrupt {n f fa : Nat} {z : Int64} {σ : Nat → NS} {S : RS} (x : Int32) (h : Sim n f z fa σ S) : (eCorrupt n f fa σ x).1 = (rCorrupt S n f x).1 ∧ Sim n f z (eCorrupt n f fa σ x).2.1 (eCorrupt n f fa σ x).2.2 (rCorrupt S n f x).2 := by
  have hn := h.1.2.1
  have hfa := h.2.1
  unfold eCorrupt rCorrupt
  rw [sim_cor_eq h]
  by_cases hc : rCor S n x = true ∧ fa < f
  · rw [if_pos hc, if_pos ⟨hc.1, by omega⟩]
    obtain ⟨k, hk, rfl, hk2⟩ := rCor_of hn hc.1
    rw [xN_nI (by omega)]
    have hA := at_st (S := S) (x := k) (v := 2)
    have hst : ∀ a, a < n → rSt (rUpSt S k 2) a ≠ 2 → rSt S a ≠ 2 := fun a _ w => by
      by_cases e : a = k
      · rw [e]; exact hk2
      · rw [at_st_eq hA e] at w; exact w
    dsimp only
    refine ⟨rfl, h.1, ⟨?_, hc.2⟩, fun y hy => ?_, rInv_st h.2.2.2.1 (by omega), fun y hy hy2 => ?_⟩
    · show fa + 1 = rFa (rUpSt S k 2) n
      rw [hfa.1]
      exact (cnt_one hk2 n hk).symm
    · by_cases e : y = k
      · subst e
        rw [up_s, hA.1]
        obtain ⟨⟨hi, h0⟩, hR, hI⟩ := h.2.2.1 y hk
        exact ⟨⟨nInv_co hi (by omega), h0⟩, nr_co hR, ni_co hI⟩
      · rw [up_e e, hA.2 y e]
        exact h.2.2.1 y hy
    · have hy3 := hst y hy hy2
      have e : y ≠ k := fun e => by rw [e, at_st_s hA] at hy2; exact hy2 rfl
      rw [hA.2 y e]
      exact li_mono (h.2.2.2.2 y hy hy3) hst (fun _ _ => Nat.le_refl _)
  · rw [if_neg hc, if_neg (fun w => hc ⟨w.1, by have := w.2; omega⟩)]; exact ⟨rfl, h⟩
theorem digs_eq {f g : Nat → Nat} : ∀ {n : Nat}, (∀ i, i < n → f i = g i) → digs f n = digs g n
  | 0, _ => rfl
  | n + 1, h => by rw [digs, digs, digs_eq (n := n) (fun i hi => h i (by omega)), h n (by omega)]
theorem digs_bd {f : Nat → Nat} (hf : ∀ c, f c < 8) : ∀ n, digs f n < 2 ^ (3 * n)
  | 0 => by simp [digs]
  | n + 1 => by
    have ih := digs_bd hf n
    rw [digs, show 3 * (n + 1) = 3 * n + 3 by omega, Nat.pow_add]
    have : f n * 2 ^ (3 * n) ≤ 7 * 2 ^ (3 * n) := Nat.mul_le_mul_right _ (by have := hf n; omega)
    omega
theorem sim_mark {n f fa : Nat} {z : Int64} {σ : Nat → NS} {S : RS} (x : Int32) (h : Sim n f z fa σ S) : (eMark n σ x).1 = (rMark S n x).1 ∧ Sim n f z fa (eMark n σ x).2 (rMark S n x).2 := by
  have hn := h.1.2.1
  unfold eMark rMark
  rw [sim_up_eq h]
  by_cases hc : rUp S n x = true
  · rw [if_pos hc, if_pos hc]
    obtain ⟨k, hk, rfl, hk0⟩ := rUp_of hn hc
    rw [xN_nI (by omega)]
    obtain ⟨⟨hi, h0⟩, hR, hI⟩ := h.2.2.1 k hk
    have hinv := nInv_mark hn hi
    unfold nMarkW at hinv ⊢
    have hfu : nFu (σ k) = rFu S k := hR.1.2.1
    by_cases h1 : rFu S k = 1
    · rw [if_pos (hfu.trans h1), if_pos h1]
      exact ⟨rfl, sim_fall h hk (by omega)⟩
    · have h1' : ¬ nFu (σ k) = 1 := fun w => h1 (hfu.symm.trans w)
      rw [if_neg h1'] at hinv ⊢
      rw [if_neg h1]
      have hc8 : ∀ c, rCnt S k c < 8 := fun c => by have := rCnt_le S k c; omega
      have em : nMark (σ k) n = rMk S n k := digs_eq (fun b hb => by rw [hR.2.2.1.1 b hb, rv_cnt (by omega)])
      have hbd : rMk S n k < 2 ^ (3 * n) := digs_bd hc8 n
      have hbd2 : 2 ^ (3 * n) ≤ 2 ^ 21 := Nat.pow_le_pow_right (by decide) (by omega)
      have hdg : ∀ b, b < n → rDg (rMk S n k) b = rCnt S k b := fun b hb => digs_dig hc8 hb
      have hA1 := at_burn h1
      have hA2 := at_ma (S := rBurn S k) (x := k) (v := rMk S n k + 1)
      rw [hA1.1] at hA2
      rw [em] at hinv ⊢
      refine ⟨rfl, Sim_up h hk (hA1.trans hA2) hinv (t0_wr h0) ?_ ?_ ?_ ?_ (Nat.le_refl _) (fun w => li_mono (L := lUpMa (lBurn (rv S k)) (rMk S n k + 1)) (h.2.2.2.2 k hk w) (fun _ _ a => a) (fun a _ => by
        show rSu S a ≤ rSu (rBurn S k) a
        rw [rBurn, if_neg h1]
        exact Nat.le_refl _))⟩
      · rw [nWr_ne h1']
        refine ⟨⟨hR.1.1, congrArg (· - 1) hR.1.2.1, hR.1.2.2⟩, fun t ht => ?_, hR.2.2⟩
        show va_up (nSa (σ k)) 140 (lN (rMk S n k)) t = _
        by_cases e : t = 140
        · rw [e, up_s, said_4]
          show _ = lN (rMk S n k + 1) - 1
          rw [lN_prd (by omega)]
          rfl
        · rw [up_e e, hR.2.1 t ht, said_k (by omega), said_k (by omega)]
          rfl
      · obtain ⟨⟨g1, g2⟩, hg, hh, hw, ho, he, hm, hr⟩ := hI
        refine ⟨⟨?_, g2⟩, hg, hh, hw, ho, he, Or.inr ⟨hbd, fun b hb => ?_⟩, hr⟩
        · show rFu S k - 1 ≤ 9
          have : rFu S k ≤ 9 := g1
          omega
        · show rDg (rMk S n k) b ≤ lCnt (rv S k) b
          rw [hdg b hb, rv_cnt (by omega)]
          exact Nat.le_refl _
      · have hkb := rKp_burn (x := k) (rKp_self h.2.2.2.1.1)
        obtain ⟨⟨o1, o2, o3, o4, o5, o6⟩, hma⟩ := hkb
        refine ⟨⟨o1, o2, o3, o4, up_le o5 (by omega), o6⟩, fun y hy => ?_⟩
        by_cases e : y = k
        · right
          intro b hb
          show rDg (va_up (rMa (rBurn S k)) k (rMk S n k + 1) y - 1) b ≤ 5
          rw [e, up_s, show rMk S n k + 1 - 1 = rMk S n k by omega, hdg b hb]
          exact rCnt_le S k b
        · have := h.2.2.2.1.2 y hy
          unfold rMkOk at this ⊢
          rw [show rMa (rUpMa (rBurn S k) k (rMk S n k + 1)) y = rMa S y from (up_e e).trans (congrFun hma y)]
          exact this
      · exact Iff.rfl
  · rw [if_neg hc, if_neg hc]; exact ⟨rfl, h⟩
theorem sim_sent {n f fa : Nat} {z : Int64} {σ : Nat → NS} {S : RS} (x k b q : Int32) (h : Sim n f z fa σ S) : eSent n σ x k b q = rSent S n x k b q := by
  have hn := h.1.2.1
  unfold eSent rSent
  rw [sim_cor_eq h]
  by_cases hc : rCor S n x = true
  · rw [if_pos hc, if_pos hc]
    obtain ⟨x', hx, rfl, -⟩ := rCor_of hn hc
    rw [xN_nI (by omega)]
    unfold rSaidC
    cases hT : tpc n k b q with
    | none => rfl
    | some t =>
      have ht := tpc_lt hn hT
      show nSa (σ x') t = rSaid S x' t
      rw [sim_said h hx (by omega), rv_said (by omega)]
  · rw [if_neg hc, if_neg hc]
theorem sim_acc {n f fa : Nat} {z : Int64} {σ : Nat → NS} {S : RS} (x b q : Int32) (h : Sim n f z fa σ S) : eAcc n σ x b q = rAcd S n x b q := by
  have hn := h.1.2.1
  unfold eAcc rAcd
  rw [sim_cor_eq h]
  by_cases hc : rCor S n x = true
  · rw [if_pos hc]
    obtain ⟨x', hx, rfl, -⟩ := rCor_of hn hc
    rw [xN_nI (by omega)]
    cases hi : isIn n b q with
    | false =>
      rw [tpc_isIn (by decide) hi, if_neg (fun w => by cases w.2.1)]
    | true =>
      obtain ⟨b', q', hb, h1, h5, rfl, rfl⟩ := isIn_of hn hi
      rw [show tpc n 3 (nI b') (nI q') = some ((3 * 7 + b') * 5 + q' - 1) from tpc_N (k := 3) hn (by omega) hb h1 h5, xN_nI (by omega), xN_nI (by omega)]
      show nAc (σ x') (((3 * 7 + b') * 5 + q' - 1) % 35) = _
      rw [show ((3 * 7 + b') * 5 + q' - 1) % 35 = b' * 5 + q' - 1 by omega, (h.2.2.1 x' hx).2.1.2.2.2.2 _ (by omega), bq_ix h1, ← rv_ac (by omega)]
      by_cases e : lAc (rv S x') (b' * 5 + q' - 1) = 0
      · rw [e, m1_0, if_neg (fun w => w.2.2 rfl)]
      · rw [m1_ne e, if_pos ⟨hc, rfl, e⟩]
  · rw [if_neg hc, if_neg (fun w => hc w.1)]
theorem sim_apd {n f fa : Nat} {z : Int64} {σ : Nat → NS} {S : RS} (x b : Int32) (h : Sim n f z fa σ S) : eApd n σ x b = rApd S n x b := by
  have hn := h.1.2.1
  unfold eApd rApd
  rw [sim_cor_eq h]
  by_cases hc : rCor S n x = true ∧ isN n b = true
  · rw [if_pos hc, if_pos hc]
    obtain ⟨x', hx, rfl, -⟩ := rCor_of hn hc.1
    obtain ⟨b', hb, rfl⟩ := isN_of hn hc.2
    rw [xN_nI (by omega), xN_nI (by omega), (h.2.2.1 x' hx).2.1.2.2.1.1 b' hb, rv_cnt (by omega)]
  · rw [if_neg hc, if_neg hc]
theorem sim_bal {n f fa : Nat} {z : Int64} {σ : Nat → NS} {S : RS} (x b : Int32) (h : Sim n f z fa σ S) : eBal n σ x b = rBal S n z x b := by
  have hn := h.1.2.1
  unfold eBal rBal
  rw [sim_cor_eq h]
  by_cases hc : rCor S n x = true ∧ isN n b = true
  · rw [if_pos hc, if_pos hc]
    obtain ⟨x', hx, rfl, -⟩ := rCor_of hn hc.1
    obtain ⟨b', hb, rfl⟩ := isN_of hn hc.2
    rw [xN_nI (by omega), xN_nI (by omega), (h.2.2.1 x' hx).2.1.2.2.1.2.2 b' hb, rv_wo hn]
  · rw [if_neg hc, if_neg hc]
theorem sim_frd {n f fa : Nat} {z : Int64} {σ : Nat → NS} {S : RS} (x b : Int32) (h : Sim n f z fa σ S) : eFrd n σ x b = rFrd S n x b := by
  have hn := h.1.2.1
  unfold eFrd rFrd
  rw [sim_cor_eq h]
  by_cases hc : rCor S n x = true ∧ isN n b = true
  · rw [if_pos hc, if_pos hc]
    obtain ⟨x', hx, rfl, -⟩ := rCor_of hn hc.1
    obtain ⟨b', hb, rfl⟩ := isN_of hn hc.2
    rw [xN_nI (by omega), xN_nI (by omega), (h.2.2.1 x' hx).2.1.2.2.1.2.1 b' hb, rv_fr (by omega)]
  · rw [if_neg hc, if_neg hc]
theorem tell_k {n me k i : Nat} {z : Int64} {u : NS} {S : RS} {x b q : Nat} (hn : n ≤ 7) (h : NR n z me u (rv S x)) (hI : NI n me (rv S x)) (hk : 1 ≤ k) (hk3 : k ≤ 3) (hb : b < 7) (hq : 1 ≤ q) (hq5 : q ≤ 5) (hi : i = k * 35 + (b * 5 + q - 1)) : nTell u i n = rHd0 S n x k b q := by
  refine cntB_eq (fun y hy => ?_)
  apply decide_eq_decide.mpr
  rw [hi, h.2.2.2.1.1 k (b * 5 + q - 1) y hk hk3 (by omega) hy, he_ix hk hq, ← rv_he (by omega)]
  exact not_congr (m1_is (hI.2.2.2.2.2.1 _))
theorem tell_m {n me : Nat} {z : Int64} {u : NS} {S : RS} {x : Nat} (hn : n ≤ 7) (h : NR n z me u (rv S x)) (hI : NI n me (rv S x)) : nTell u 140 n = rHm0 S n x := by
  refine cntB_eq (fun y hy => ?_)
  apply decide_eq_decide.mpr
  have hb := hI.1.2.2 y
  rw [show 140 * 7 + y = 980 + y by omega, h.2.2.2.1.2 y hy, ← rv_hm (by omega)]
  constructor
  · intro w
    rcases Nat.eq_zero_or_pos (lHm (rv S x) y) with e | e
    · rw [e] at w; exact absurd (by decide) w
    · exact e
  · intro w e
    rw [lN_prd w] at e
    have := congrArg pn e
    rw [px_lN (by omega)] at this
    have h2 : pn (-1) = 18446744073709551615 := by decide
    omega
theorem sim_heard {n f fa : Nat} {z : Int64} {σ : Nat → NS} {S : RS} (x k b q : Int32) (h : Sim n f z fa σ S) : eHeard n σ x k b q = rHeard S n x k b q := by
  have hn := h.1.2.1
  unfold eHeard rHeard
  rw [sim_cor_eq h]
  by_cases hc : rCor S n x = true
  · rw [if_pos hc]
    obtain ⟨x', hx, rfl, -⟩ := rCor_of hn hc
    rw [xN_nI (by omega)]
    obtain ⟨-, hR, hI⟩ := h.2.2.1 x' hx
    cases hT : tpc n k b q with
    | none =>
      split <;> rfl
    | some t =>
      rcases tpc_of hn hT with ⟨rfl, rfl, rfl, rfl⟩ | ⟨k', b', q', hk', hb', h1, h5, rfl, rfl, rfl, rfl⟩
      · rw [if_pos ⟨hc, by decide⟩]
        show nI (nTell (σ x') 140 n) = nI (rHm0 S n x')
        rw [tell_m hn hR hI]
      · dsimp only
        obtain ⟨e1, e2, e3⟩ := kbq (k := k') (b := b') (q := q') (by omega) h1 h5
        rw [if_neg (show ¬ (k' * 7 + b') * 5 + q' - 1 = 140 by omega), e1, e2, e3]
        by_cases e : k' = 0
        · rw [if_pos e, if_neg (fun w => w.2 (by rw [e]; rfl))]
        · rw [if_neg e, if_pos ⟨hc, fun w => e ((nI_eq (a := k') (b := 0) (by omega) (by omega)).mp w)⟩]
          rw [tell_k hn hR hI (by omega) hk' (by omega) h1 h5 (show (k' * 7 + b') * 5 + q' - 1 = k' * 35 + (b' * 5 + q' - 1) by omega)]
  · rw [if_neg hc, if_neg (fun w => hc w.1)]
