/-! Receiving, forging, carrying, pumping: class against reference -/
theorem tpc_ok {n t : Nat} {k b q : Int32} (hn : n ≤ 7) (h : tpc n k b q = some t) : t = 140 ∨ (t < 140 ∧ t % 35 < 5 * n) := by
  rcases tpc_of hn h with h1 | ⟨k', b', q', h1, h2, h3, h4, -, -, -, h5⟩
  · exact Or.inl h1.1
  · right; omega
theorem sim_step {n f fa x y t : Nat} {z p : Int64} {k b q : Int32} {σ : Nat → NS} {S : RS} (h : Sim n f z fa σ S) (hx : x < n) (hy : y < n) (hT : tpc n k b q = some t) (hux : rSt S x ≠ 2) (hok : t < 140 → rSt S y ≠ 2 → rSt S (t % 35 / 5) ≠ 2 → t % 35 % 5 < rSu S (t % 35 / 5)) :
    (nRecv (σ x) n f t y p).1 = (rRecvC S n f z x y k b q p).1 ∧ Sim n f z fa (va_up σ x (nRecv (σ x) n f t y p).2) (rRecvC S n f z x y k b q p).2 := by
  have hn := h.1.2.1
  have ht := tpc_ok hn hT
  obtain ⟨⟨hi, h0⟩, hR, hI⟩ := h.2.2.1 x hx
  have e : rRecvC S n f z x y k b q p = rRv S n f z x y t p := by unfold rRecvC; rw [hT]
  have hri := rInv_recv (f := f) (y := y) (z := z) (p := p) (k := k) (b := b) (q := q) hn hx h.2.2.2.1
  rw [e] at hri ⊢
  obtain ⟨a1, a2⟩ := at_rv (S := S) (n := n) (f := f) (x := x) (y := y) (t := t) (z := z) (p := p) hn (by omega) (by omega) (h.2.2.2.1.2 x hx)
  obtain ⟨s1, s2, s3⟩ := sim_recv (f := f) (t := t) (y := y) (p := p) hn hR hI hy ht
  have hk := lKp_rv (n := n) (f := f) (y := y) (t := t) (z := z) (p := p) (L := rv S x)
  have hL := li_rv (f := f) (z := z) (p := p) hn (by have := h.1.2.2; omega) (h.2.2.2.2 x hx hux) (by have := h.2.1; unfold rFa at this; omega) hy ht hok
  refine ⟨s1.trans a1.symm, Sim_up h hx a2 (nInv_recv hn hi) (t0_recv h0) s2 s3 hri ?_ ?_ ?_⟩
  · constructor
    · intro w
      rcases hk.1 with w2 | w2
      · rw [w2] at w; exact w
      · omega
    · intro w; exact absurd w hux
  · rw [hk.2]; exact Nat.le_refl _
  · intro _
    have : rSu (rRv S n f z x y t p).2 = rSu S ∨ True := Or.inr trivial
    refine li_mono hL (fun _ _ w => w) (fun a ha => ?_)
    by_cases ea : a = x
    · rw [ea, at_su_s a2, hk.2]; exact Nat.le_refl _
    · rw [at_su_eq a2 ea]; exact Nat.le_refl _
theorem said_ok {n f fa y t : Nat} {z : Int64} {σ : Nat → NS} {S : RS} (h : Sim n f z fa σ S) (hy : y < n) (hs : rSt S y ≠ 2) (hb : t % 35 < 5 * n) (hne : lSaid (rv S y) y t ≠ -1) : t < 140 → rSt S y ≠ 2 → rSt S (t % 35 / 5) ≠ 2 → t % 35 % 5 < rSu S (t % 35 / 5) := by
  intro ht _ ha
  have hL := h.2.2.2.2 y hy hs (t % 35 / 5) (t % 35 % 5) (by omega) ha (by omega)
  rw [show t % 35 / 5 * 5 + t % 35 % 5 = t % 35 by omega] at hL
  rw [said_k ht] at hne
  have h0 : lSd0 (rv S y) y (t / 35) (t % 35) ≠ 0 := fun w => hne (by rw [w]; rfl)
  rcases (show t / 35 = 0 ∨ t / 35 = 1 ∨ t / 35 = 2 ∨ t / 35 = 3 by omega) with e | e | e | e
  · rw [e, sd_0] at h0
    split at h0
    · split at h0
      · rename_i w1 w2
        rw [← w2.1]
        have : t % 35 % 5 + 1 ≤ rSu S y := w2.2
        omega
      · exact absurd rfl h0
    · exact absurd rfl h0
  · rw [e, sd_1] at h0
    split at h0
    · exact hL.1 (Or.inl h0)
    · exact absurd rfl h0
  · rw [e, sd_2] at h0
    split at h0
    · exact hL.1 (Or.inr (Or.inl h0))
    · exact absurd rfl h0
  · rw [e, sd_3] at h0
    exact hL.1 (Or.inr (Or.inr (Or.inl h0)))
/-- what is said is well formed -/
theorem said_wf {n me t : Nat} {L : LV} (hn : n ≤ 7) (hI : NI n me L) (ht : t = 140 ∨ (t < 140 ∧ t % 35 < 5 * n)) (hne : lSaid L me t ≠ -1) : nWf t (lSaid L me t) n = true ∧ ¬ lSaid L me t < 0 := by
  obtain ⟨-, -, -, ⟨w1, w2, w3, -⟩, ho, -, hm, -, -⟩ := hI
  rcases ht with rfl | ⟨ht, hb⟩
  · rw [said_4] at hne ⊢
    have hml := lMa_le hn hm
    rcases Nat.eq_zero_or_pos (lMa L) with h0 | h0
    · rw [h0] at hne; exact absurd (by decide) hne
    · rw [lN_prd h0]
      have hk := hm.resolve_left (by omega)
      have hp : pn (lN (lMa L - 1)) = lMa L - 1 := px_lN (by omega)
      refine ⟨?_, ?_⟩
      · show isMk (lN (lMa L - 1)) n = true
        simp only [isMk, Bool.and_eq_true, decide_eq_true_eq]
        refine ⟨by rw [hp]; exact hk.1, allB_iff.mpr (fun c hc => decide_eq_true ?_)⟩
        unfold digN
        rw [hp]
        exact Nat.le_trans (hk.2 c hc) (lCnt_le L c)
      · rw [px_neg, hp]; omega
  · have key : wfP (lSaid L me t) (t % 35 / 5) n = true := by
      rw [said_k ht] at hne ⊢
      have h0 : lSd0 L me (t / 35) (t % 35) ≠ 0 := fun w => hne (by rw [w]; rfl)
      rw [m1_ne h0]
      rcases (show t / 35 = 0 ∨ t / 35 = 1 ∨ t / 35 = 2 ∨ t / 35 = 3 by omega) with e | e | e | e
      · rw [e, sd_0] at h0 ⊢
        split at h0
        · rename_i g1
          rw [if_pos g1]
          split at h0
          · rename_i g2
            rw [if_pos g2, ← g2.1]
            exact ho _ (by have := g2.2; omega)
          · exact absurd rfl h0
        · exact absurd rfl h0
      · rw [e, sd_1] at h0 ⊢
        split at h0
        · rename_i g1
          rw [if_pos g1]
          exact w1 _ (by omega) h0
        · exact absurd rfl h0
      · rw [e, sd_2] at h0 ⊢
        split at h0
        · rename_i g1
          rw [if_pos g1]
          exact w2 _ (by omega) h0
        · exact absurd rfl h0
      · rw [e, sd_3] at h0 ⊢
        exact w3 _ (by omega) h0
    refine ⟨?_, ?_⟩
    · unfold nWf
      rw [if_neg (by omega)]
      exact key
    · have := wf_34 hn key
      rw [px_neg]
      omega
theorem m1neg : (-1 : Int64) < 0 := by decide
theorem sim_said {n f fa y t : Nat} {z : Int64} {σ : Nat → NS} {S : RS} (h : Sim n f z fa σ S) (hy : y < n) (ht : t ≤ 140) : nSa (σ y) t = lSaid (rv S y) y t := (h.2.2.1 y hy).2.1.2.1 t ht
theorem sim_forge {n f fa : Nat} {z : Int64} {σ : Nat → NS} {S : RS} (y x hd : Int32) (p : Int64) (h : Sim n f z fa σ S) : (eForge n f σ y x hd p).1 = (rForge S n f z y x hd p).1 ∧ Sim n f z fa (eForge n f σ y x hd p).2 (rForge S n f z y x hd p).2 := by
  have hn := h.1.2.1
  unfold eForge rForge
  rw [sim_state h, sim_up_eq h]
  by_cases hc : rState S n y = nI 2 ∧ rUp S n x = true
  · rw [if_pos hc, if_pos hc]
    obtain ⟨x', hx', rfl, hx0⟩ := rUp_of hn hc.2
    have hy1 : isN n y = true := by
      cases hb : isN n y with
      | true => rfl
      | false => rw [rState_f hb] at hc; exact absurd hc.1 (by decide)
    obtain ⟨y', hy', rfl⟩ := isN_of hn hy1
    rw [rState_N hn hy'] at hc
    have hy2 : rSt S y' = 2 := (nI_eq (by have := h.2.2.2.1.1.1 y'; omega) (by omega)).mp hc.1
    rw [xN_nI (by omega), xN_nI (by omega)]
    cases hT : tpc n (hd &&& nI 7) ((hd >>> (nI 3 &&& 31)) &&& nI 7) (hd >>> (nI 6 &&& 31)) with
    | none =>
      have e : rRecvC S n f z x' y' (hd &&& nI 7) ((hd >>> (nI 3 &&& 31)) &&& nI 7) (hd >>> (nI 6 &&& 31)) p = (-3, S) := by unfold rRecvC; rw [hT]
      rw [e]
      exact ⟨rfl, h⟩
    | some t => exact sim_step h hx' hy' hT (by omega) (fun _ w => absurd hy2 w)
  · rw [if_neg hc, if_neg hc]; exact ⟨rfl, h⟩
theorem sim_carry {n f fa : Nat} {z : Int64} {σ : Nat → NS} {S : RS} (y x k b q : Int32) (h : Sim n f z fa σ S) : (eCarry n f σ y x k b q).1 = (rCarry S n f z y x k b q).1 ∧ Sim n f z fa (eCarry n f σ y x k b q).2 (rCarry S n f z y x k b q).2 := by
  have hn := h.1.2.1
  unfold eCarry rCarry
  rw [sim_cor_eq h, sim_up_eq h]
  by_cases hc : rCor S n y = true ∧ rUp S n x = true
  · rw [if_pos hc, if_pos hc]
    obtain ⟨x', hx', rfl, hx0⟩ := rUp_of hn hc.2
    obtain ⟨y', hy', rfl, hy0⟩ := rCor_of hn hc.1
    rw [xN_nI (by omega), xN_nI (by omega)]
    cases hT : tpc n k b q with
    | none =>
      rw [rSaid_none hT, if_pos m1neg]
      exact ⟨rfl, h⟩
    | some t =>
      have ht := tpc_ok hn hT
      have e : rSaidC S n y' k b q = lSaid (rv S y') y' t := by unfold rSaidC; rw [hT]; exact rv_said (by omega)
      rw [e]
      dsimp only
      rw [sim_said h hy' (by omega)]
      by_cases h1 : lSaid (rv S y') y' t = -1
      · rw [if_pos h1, if_pos (by rw [h1]; decide)]
        exact ⟨rfl, h⟩
      · rw [if_neg h1, if_neg (said_wf hn (h.2.2.1 y' hy').2.2 ht h1).2]
        refine sim_step h hx' hy' hT (by omega) (fun ht2 => said_ok h hy' hy0 (by omega) h1 ht2)
  · rw [if_neg hc, if_neg hc]; exact ⟨rfl, h⟩
