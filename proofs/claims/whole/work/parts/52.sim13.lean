/-! Submitting, and the whole simulation -/
theorem pap_wf {n me pay amt : Nat} {g : Nat → Nat} (hn : n ≤ 7) (hme : me < n) (hp : pay < n) (hpm : pay ≠ me) (ha : 1 ≤ amt) (ha2 : amt ≤ 1023) (hg : ∀ c, g c ≤ 5) (hgm : g me = 0) : wfP (lN (pay + 8 * amt + 8192 * digs g n)) me n = true := by
  have hg8 : ∀ c, g c < 8 := fun c => by have := hg c; omega
  have hD := digs_bd hg8 n
  have hD2 : 2 ^ (3 * n) ≤ 2 ^ 21 := Nat.pow_le_pow_right (by decide) (by omega)
  have hN : pn (lN (pay + 8 * amt + 8192 * digs g n)) = pay + 8 * amt + 8192 * digs g n := px_lN (by omega)
  have hneed : ∀ c, c < n → needN (lN (pay + 8 * amt + 8192 * digs g n)) c = g c := by
    intro c hc
    unfold needN
    rw [hN, Nat.pow_add, ← Nat.div_div_eq_div_mul, show (pay + 8 * amt + 8192 * digs g n) / 2 ^ 13 = digs g n by omega]
    exact digs_dig hg8 hc
  simp only [wfP, Bool.and_eq_true, decide_eq_true_eq]
  refine ⟨?_, ?_, ?_, ?_, ?_, allB_iff.mpr (fun c hc => decide_eq_true ?_)⟩
  · unfold payN; rw [hN]; omega
  · unfold payN; rw [hN]; omega
  · unfold amtN; rw [hN]; omega
  · rw [hneed me hme]; exact hgm
  · rw [hN, Nat.pow_add]; omega
  · rw [hneed c hc]; exact hg c
theorem cnt_su {n f fa x : Nat} {z : Int64} {σ : Nat → NS} {S : RS} (h : Sim n f z fa σ S) (hx : x < n) (h2 : rSt S x ≠ 2) : lCnt (rv S x) x ≤ lSu (rv S x) := by
  obtain ⟨-, -, hI⟩ := h.2.2.1 x hx
  rcases Nat.eq_zero_or_pos (lCnt (rv S x) x) with e | e
  · omega
  · have h5 := lCnt_le (rv S x) x
    have hne := (hI.2.1 x (lCnt (rv S x) x - 1) hx (by omega)).mpr (by omega)
    have := (h.2.2.2.2 x hx h2 x (lCnt (rv S x) x - 1) hx h2 (by omega)).1 (Or.inr (Or.inr (Or.inl hne)))
    have e2 : rSu S x = lSu (rv S x) := rfl
    omega
theorem sa_own {n me s : Nat} {z : Int64} {u : NS} {L : LV} (hme : me < 7) (h : NR n z me u L) (hI : NI n me L) (hs : s < lSu L) (hf : lFr L me ≤ s) : nSa u (me * 5 + s) = lOw L s := by
  have h5 := hI.1.2.1
  rw [h.2.1 _ (by omega), said_k (by omega), show (me * 5 + s) / 35 = 0 by omega, show (me * 5 + s) % 35 = me * 5 + s by omega, sd_0, show (me * 5 + s) / 5 = me by omega, show (me * 5 + s) % 5 = s by omega, if_pos (by omega), if_pos ⟨rfl, by omega⟩]
  exact m1_ne (wf_ne (hI.2.2.2.2.1 s hs))
theorem sim_spend {n f fa x : Nat} {z : Int64} {σ : Nat → NS} {S : RS} (h : Sim n f z fa σ S) (hx : x < n) : nSpend (σ x) x = rSpend S n x z := by
  have hn := h.1.2.1
  obtain ⟨-, hR, hI⟩ := h.2.2.1 x hx
  have h5 := hI.1.2.1
  have e1 : nCn (σ x) x = rCnt S x x := by rw [hR.2.2.1.1 x hx, rv_cnt (by omega)]
  have e2 : nSu (σ x) = rSu S x := hR.1.2.2
  have hfr := hI.2.2.2.2.2.2.2.1 x hx
  rw [← rv_cnt (by omega)] at hfr
  unfold nSpend rSpend
  rw [e1, e2]
  have key : ∀ m, m ≤ rSu S x - rCnt S x x → nLeft (σ x) x (rCnt S x x) m = rLeft S n x z (rCnt S x x) m := by
    intro m
    induction m with
    | zero => intro _; show nBa (σ x) x = _; rw [hR.2.2.1.2.2 x hx, ← rv_wo hn]; rfl
    | succ m ih =>
      intro hm
      rw [nLeft, rLeft, ih (by omega), sa_own (by omega) hR hI (show rCnt S x x + m < lSu (rv S x) from (by show _ < rSu S x; omega)) (by omega), rv_ow (by have : lSu (rv S x) = rSu S x := rfl; omega)]
  exact key _ (Nat.le_refl _)
theorem sim_needs {n f fa x : Nat} {z : Int64} {σ : Nat → NS} {S : RS} (h : Sim n f z fa σ S) (hx : x < n) : nNeeds (σ x) x n = digs (rNd S x) n := by
  have hn := h.1.2.1
  obtain ⟨-, hR, hI⟩ := h.2.2.1 x hx
  refine digs_eq (fun c hc => ?_)
  have hC : nCn (σ x) c = lCnt (rv S x) c := hR.2.2.1.1 c hc
  have h5 := lCnt_le (rv S x) c
  have hap : ∀ j, j < 5 → rAp S ((x * 7 + c) * 5 + j) = lAp (rv S x) (c * 5 + j) := fun j hj => by rw [bs_ix, rv_ap (by omega)]
  have hsa : ∀ j, j < lCnt (rv S x) c → nSa (σ x) (105 + c * 5 + j) = lAp (rv S x) (c * 5 + j) ∧ lAp (rv S x) (c * 5 + j) ≠ 0 := fun j hj => by
    have hne := (hI.2.1 c j hc (by omega)).mpr hj
    rw [hR.2.1 _ (by omega), said_k (by omega), show (105 + c * 5 + j) / 35 = 3 by omega, show (105 + c * 5 + j) % 35 = c * 5 + j by omega, sd_3, m1_ne hne]
    exact ⟨rfl, hne⟩
  rw [hC]
  unfold rNd
  by_cases e : c = x
  · rw [if_pos e]
    have key : ∀ m, m ≤ lCnt (rv S x) c → nLast (σ x) x c m = 0 := by
      intro m
      induction m with
      | zero => intro _; rfl
      | succ m ih =>
        intro hm
        obtain ⟨g1, g2⟩ := hsa m (by omega)
        have hw := (wf_pay (hI.2.2.2.1.2.2.1 (c * 5 + m) (by omega) g2)).2
        rw [show (c * 5 + m) / 5 = c by omega] at hw
        rw [nLast, g1, if_neg (fun w => hw (w.trans e.symm))]
        exact ih (by omega)
    exact key _ (Nat.le_refl _)
  · rw [if_neg e]
    have k1 : ∀ m, m ≤ lCnt (rv S x) c → nLast (σ x) x c m = rLp S x c m := by
      intro m
      induction m with
      | zero => intro _; rfl
      | succ m ih =>
        intro hm
        obtain ⟨g1, g2⟩ := hsa m (by omega)
        rw [nLast, rLp, g1, hap m (by omega), ih (by omega)]
        by_cases w : payN (lAp (rv S x) (c * 5 + m)) = x
        · rw [if_pos w, if_pos ⟨g2, w⟩]
        · rw [if_neg w, if_neg (fun w2 => w w2.2)]
    have k2 : ∀ m, lCnt (rv S x) c + m ≤ 5 → rLp S x c (lCnt (rv S x) c + m) = rLp S x c (lCnt (rv S x) c) := by
      intro m
      induction m with
      | zero => intro _; rfl
      | succ m ih =>
        intro hm
        have h0 : ¬ lAp (rv S x) (c * 5 + (lCnt (rv S x) c + m)) ≠ 0 := fun w => by
          have := (hI.2.1 c (lCnt (rv S x) c + m) hc (by omega)).mp w
          omega
        rw [← Nat.add_assoc, rLp, hap _ (by omega), if_neg (fun w => h0 w.1)]
        exact ih (by omega)
    rw [k1 _ (Nat.le_refl _), ← k2 (5 - lCnt (rv S x) c) (by omega), show lCnt (rv S x) c + (5 - lCnt (rv S x) c) = 5 by omega]
theorem rNd_le (S : RS) (x c : Nat) : rNd S x c ≤ 5 := by
  unfold rNd
  split
  · omega
  · exact rLp_le S x c 5
theorem nr_sub {n me : Nat} {z p : Int64} {u : NS} {L : LV} (hme : me < 7) (h : NR n z me u L) (h1 : ¬ nFu u = 1) (hs : lSu L < 5) (hf : lFr L me ≤ lSu L) (hp : p ≠ 0) : NR n z me (sSu (nWr u (me * 5 + nSu u) p) (nSu u + 1)) (lUpOw (lBurn L) p) := by
  rw [nWr_ne h1, h.1.2.2]
  refine ⟨⟨h.1.1, congrArg (· - 1) h.1.2.1, rfl⟩, fun t ht => ?_, h.2.2⟩
  show va_up (nSa u) (me * 5 + lSu L) p t = _
  rcases t_cases ht with rfl | ⟨ht1, e | e | e | e⟩
  · rw [up_e (by omega), h.2.1 140 ht]; rfl
  · rw [said_k ht1, e, sd_0]
    show _ = m1 (if lFr L (t % 35 / 5) < t % 35 % 5 + 1 then if me = t % 35 / 5 ∧ t % 35 % 5 + 1 ≤ lSu L + 1 then va_up (lOw L) (lSu L) p (t % 35 % 5) else 0 else 0)
    by_cases e2 : t = me * 5 + lSu L
    · rw [e2, up_s, show (me * 5 + lSu L) % 35 = me * 5 + lSu L by omega, show (me * 5 + lSu L) / 5 = me by omega, show (me * 5 + lSu L) % 5 = lSu L by omega, if_pos (by omega), if_pos ⟨rfl, by omega⟩, up_s, m1_ne hp]
    · rw [up_e e2, h.2.1 t ht, said_k ht1, e, sd_0]
      by_cases e3 : me = t % 35 / 5
      · have hne : t % 35 % 5 ≠ lSu L := by omega
        rw [up_e hne]
        by_cases e4 : t % 35 % 5 + 1 ≤ lSu L
        · rw [if_pos (show me = t % 35 / 5 ∧ t % 35 % 5 + 1 ≤ lSu L from ⟨e3, e4⟩), if_pos (show me = t % 35 / 5 ∧ t % 35 % 5 + 1 ≤ lSu L + 1 from ⟨e3, by omega⟩)]
        · rw [if_neg (show ¬ (me = t % 35 / 5 ∧ t % 35 % 5 + 1 ≤ lSu L) from fun w => e4 w.2), if_neg (show ¬ (me = t % 35 / 5 ∧ t % 35 % 5 + 1 ≤ lSu L + 1) from fun w => by have := w.2; omega)]
      · rw [if_neg (show ¬ (me = t % 35 / 5 ∧ t % 35 % 5 + 1 ≤ lSu L) from fun w => e3 w.1), if_neg (show ¬ (me = t % 35 / 5 ∧ t % 35 % 5 + 1 ≤ lSu L + 1) from fun w => e3 w.1)]
  · rw [up_e (by omega), h.2.1 t ht, said_k ht1, said_k ht1, e, sd_1, sd_1]; rfl
  · rw [up_e (by omega), h.2.1 t ht, said_k ht1, said_k ht1, e, sd_2, sd_2]; rfl
  · rw [up_e (by omega), h.2.1 t ht, said_k ht1, said_k ht1, e, sd_3, sd_3]; rfl
theorem ni_sub {n me : Nat} {p : Int64} {L : LV} (hI : NI n me L) (hs : lSu L < 5) (hp : wfP p me n = true) : NI n me (lUpOw (lBurn L) p) := by
  obtain ⟨⟨g1, g2, g3⟩, hg, hh, hw, ho, hr⟩ := hI
  refine ⟨⟨by show lFu L - 1 ≤ 9; omega, by show lSu L + 1 ≤ 5; omega, g3⟩, hg, hh, hw, fun s h => ?_, hr⟩
  show wfP (va_up (lOw L) (lSu L) p s) me n = true
  have h' : s < lSu L + 1 := h
  by_cases e : s = lSu L
  · rw [e, up_s]; exact hp
  · rw [up_e e]; exact ho s (by omega)
theorem sim_submit {n f fa : Nat} {z : Int64} {σ : Nat → NS} {S : RS} (x y a : Int32) (h : Sim n f z fa σ S) : (eSubmit n σ x y a).1 = (rSubmit S n z x y a).1 ∧ Sim n f z fa (eSubmit n σ x y a).2 (rSubmit S n z x y a).2 := by
  have hn := h.1.2.1
  unfold eSubmit rSubmit
  rw [sim_up_eq h]
  by_cases hc : rUp S n x = true ∧ isN n y = true ∧ ¬ y = x ∧ ¬ a < nI 1 ∧ a ≤ nI 1023
  · rw [if_pos hc, if_pos hc]
    obtain ⟨k, hk, rfl, hk0⟩ := rUp_of hn hc.1
    obtain ⟨y', hy', rfl⟩ := isN_of hn hc.2.1
    have ha0 : ¬ a < 0 := fun w => hc.2.2.2.1 (Int32.lt_of_lt_of_le w (by decide))
    obtain ⟨a', ha', rfl⟩ := nI_of2 (M := 1023) (n := 1023) (by decide) ha0 hc.2.2.2.2
    have ha1 : 1 ≤ a' := by
      rcases Nat.lt_or_ge a' 1 with w | w
      · exact absurd ((nI_ltI (a := a') (b := 1) (by omega) (by omega)).mpr w) hc.2.2.2.1
      · exact w
    have hne : y' ≠ k := fun w => hc.2.2.1 (by rw [w])
    rw [xN_nI (by omega), xN_nI (by omega), xN_nI (by omega)]
    obtain ⟨⟨hi, h0⟩, hR, hI⟩ := h.2.2.1 k hk
    have hinv := nInv_submit (me := k) (pay := y') (amt := a') (by omega) hi
    have hsu : nSu (σ k) = rSu S k := hR.1.2.2
    have hfu : nFu (σ k) = rFu S k := hR.1.2.1
    have h5 : rSu S k ≤ 5 := hI.1.2.1
    unfold nSubmit at hinv ⊢
    unfold rSubN
    rw [hsu] at hinv ⊢
    by_cases c1 : rSu S k = 5
    · rw [if_pos (by omega), if_pos c1, va_upI rfl]
      exact ⟨rfl, h⟩
    · rw [if_neg (by omega)] at hinv ⊢
      rw [if_neg c1]
      rw [sim_spend h hk] at hinv ⊢
      by_cases c2 : rSpend S n k z < lN a'
      · rw [if_pos c2, if_pos c2, va_upI rfl]
        exact ⟨rfl, h⟩
      · rw [if_neg c2] at hinv ⊢
        rw [if_neg c2]
        rw [hfu] at hinv ⊢
        by_cases c3 : rFu S k = 1
        · rw [if_pos c3, if_pos c3]
          exact ⟨rfl, sim_fall h hk (by omega)⟩
        · rw [if_neg c3] at hinv ⊢
          rw [if_neg c3]
          rw [sim_needs h hk] at hinv ⊢
          have hwf := pap_wf (n := n) (me := k) (pay := y') (amt := a') (g := rNd S k) hn hk hy' hne ha1 ha' (rNd_le S k) (if_pos rfl)
          have hA1 := at_burn c3
          have hb : rSu (rBurn S k) = rSu S := by rw [rBurn, if_neg c3]
          have hA2 := at_ow (S := rBurn S k) (x := k) (p := rPap S n k y' a') (by rw [hb]; omega)
          rw [hA1.1] at hA2
          have hfr : lFr (rv S k) k ≤ lSu (rv S k) := Nat.le_trans (hI.2.2.2.2.2.2.2.1 k hk) (cnt_su h hk (by omega))
          have hnr := nr_sub (p := rPap S n k y' a') (by omega) hR (fun w => c3 (hfu.symm.trans w)) (show lSu (rv S k) < 5 from (by show rSu S k < 5; omega)) hfr (wf_ne hwf)
          rw [hsu] at hnr
          refine ⟨rfl, Sim_up h hk (hA1.trans hA2) hinv (show T0 (nWr (σ k) _ _) from t0_wr h0) hnr (ni_sub hI (show rSu S k < 5 by omega) hwf) ?_ Iff.rfl (show rSu S k ≤ rSu S k + 1 by omega) (fun w => li_mono (L := lUpOw (lBurn (rv S k)) (rPap S n k y' a')) (h.2.2.2.2 k hk w) (fun _ _ a => a) (fun b _ => ?_))⟩
          · obtain ⟨⟨o1, o2, o3, o4⟩, hma⟩ := rKp_burn (x := k) (rKp_self h.2.2.2.1.1)
            exact rInv_of h.2.2.2.1 ⟨⟨o1, o2, up_le o3 (by rw [hb]; omega), o4⟩, hma⟩
          · show rSu S b ≤ va_up (rSu (rBurn S k)) k (rSu (rBurn S k) k + 1) b
            rw [hb]
            by_cases e : b = k
            · rw [e, up_s]; omega
            · rw [up_e e]; exact Nat.le_refl _
  · rw [if_neg hc, if_neg hc]; exact ⟨rfl, h⟩
theorem sim_All : SimAll Sim :=
  ⟨fun _ _ _ _ _ _ x y a h => sim_submit x y a h, fun _ _ _ _ _ _ x h => sim_corrupt x h, fun _ _ _ _ _ _ y x hd p h => sim_forge y x hd p h, fun _ _ _ _ _ _ y x k b q h => sim_carry y x k b q h,
   fun _ _ _ _ _ _ k h => sim_pumpC k h, fun _ _ _ _ _ _ h => sim_pend h, fun _ _ _ _ _ _ x h => sim_crash x h, fun _ _ _ _ _ _ x h => sim_rest x h, fun _ _ _ _ _ _ x k h => sim_fuse x k h, fun _ _ _ _ _ _ x h => sim_mark x h,
   fun _ _ _ _ _ _ x k b q h => sim_sent x k b q h, fun _ _ _ _ _ _ x k b q h => sim_heard x k b q h, fun _ _ _ _ _ _ x b q h => sim_acc x b q h, fun _ _ _ _ _ _ x b h => sim_apd x b h, fun _ _ _ _ _ _ x b h => sim_bal x b h, fun _ _ _ _ _ _ x b h => sim_frd x b h, fun _ _ _ _ _ _ x h => sim_kept x h, fun _ _ _ _ _ _ x h => sim_state h x⟩
