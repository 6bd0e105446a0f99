/-! A node's numbers stay within their bounds -/
theorem nInv_down {n : Nat} {u : NS} (h : nInv n u) : nInv n (nDown u) :=
  ⟨⟨by show 1 ≤ 2; omega, by show 0 ≤ 9; omega, h.1.2.2.1, h.1.2.2.2.1, h.1.2.2.2.2⟩, fun _ _ z => absurd rfl z, h.2.2⟩
theorem nInv_wr {n t : Nat} {u : NS} {p : Int64} (h : nInv n u) (ht : t ≠ 140) : nInv n (nWr u t p) := by
  unfold nWr
  split
  · exact nInv_down h
  · refine ⟨⟨h.1.1, by have := h.1.2.1; show nFu u - 1 ≤ 9; omega, h.1.2.2.1, h.1.2.2.2.1, h.1.2.2.2.2⟩, h.2.1, ?_⟩
    have e : va_up (nSa u) t p 140 = nSa u 140 := if_neg (fun z => ht z.symm)
    show va_up (nSa u) t p 140 = -1 ∨ ∀ c, c < n → digN (va_up (nSa u) t p 140) c ≤ 5
    rw [e]
    exact h.2.2
theorem nInv_to {n : Nat} {u : NS} {g : Nat → Int64} (h : nInv n u) : nInv n (sTo u g) := ⟨h.1, h.2.1, h.2.2⟩
theorem nInv_ac {n i : Nat} {u : NS} {p : Int64} (h : nInv n u) (hp : payN p < n) : nInv n (sAc u (va_up (nAc u) i p)) := ⟨h.1, nAc_up h.2.1 hp, h.2.2⟩
theorem nInv_step {n : Nat} {u : NS} (hn : n ≤ 7) (h : nInv n u) (hL : ¬ nLeast u n = n) (h1 : ¬ nFu u = 1) : nInv n (nStep u n) := by
  refine ⟨nOk_step h.1 hL h1, nAc_step h.2.1 h1, ?_⟩
  have hl := nLeast_lt hL
  have hc := nNext_cn (nLeast_sat hL)
  have e : nSa (nStep u n) 140 = nSa u 140 := by
    unfold nStep nWr
    rw [if_neg h1]
    show va_up (nSa u) _ _ 140 = _
    exact if_neg (by omega)
  rw [e]
  exact h.2.2
theorem nInv_apply {n : Nat} (hn : n ≤ 7) : ∀ (m k : Nat) {u : NS}, nInv n u → nInv n (nApply n m k u).2
  | 0, _, _, h => h
  | m + 1, k, u, h => by
    by_cases hL : nLeast u n = n
    · rw [nApply_end hL]; exact h
    · by_cases h1 : nFu u = 1
      · rw [nApply_fall (by omega) hL h1]; exact nInv_down h
      · have := nApply_step (k := m + 1) (i := 0) (by omega) hL h1
        have e : nApply n (m + 1) k u = nApply n m (k + 1) (nStep u n) := by simp [nApply, hL, h1, nStep]
        rw [e]
        exact nInv_apply hn m (k + 1) (nInv_step hn h hL h1)
theorem nInv_forget {n i : Nat} {u : NS} (h : nInv n u) : nInv n (nForget u n i) := by
  refine ⟨h.1, h.2.1, ?_⟩
  have e : nSa (nForget u n i) 140 = nSa u 140 := if_neg (by omega)
  rw [e]
  exact h.2.2
theorem nInv_forgets {n c k : Nat} : ∀ (m : Nat) {u : NS}, nInv n u → nInv n (nForgets n c k m u)
  | 0, _, h => h
  | m + 1, _, h => nInv_forget (nInv_forgets m h)
theorem nInv_freeC {n c : Nat} {d : Int64} {u : NS} (h : nInv n u) (hd : digN d c ≤ 5) : nInv n (nFreeC n d c u) := by
  have h2 := nInv_forgets (n := n) (c := c) (k := nFr u c) (digN d c - nFr u c) h
  exact ⟨nOk_freeC h.1 hd, h2.2.1, h2.2.2⟩
theorem nInv_freeTo {n : Nat} {d : Int64} {u : NS} (h : nInv n u) : ∀ k, (∀ c, c < k → digN d c ≤ 5) → nInv n (nFreeTo n d k u)
  | 0, _ => h
  | k + 1, hd => nInv_freeC (nInv_freeTo h k (fun c hc => hd c (by omega))) (hd k (by omega))
theorem nInv_free {n f : Nat} {u : NS} (h : nInv n u) : nInv n (nFree u n f) := by
  unfold nFree
  split
  · exact h
  · rename_i hh
    exact nInv_freeTo h n (h.2.2.resolve_left (fun z => hh (Or.inl z)))
theorem nInv_take {n f t y : Nat} {u : NS} {p : Int64} (hn : n ≤ 7) (h : nInv n u) (hp : t = 140 ∨ payN p < n) : nInv n (nTake u n f t y p).2 := by
  by_cases h0 : t / 35 = 0
  · rw [nTake_0 h0]; exact nInv_wr h (by omega)
  · by_cases h4 : t / 35 = 4
    · rw [nTake_4 rfl h4]; exact nInv_free (nInv_to h)
    · have hv := nInv_to (g := va_up (nTo u) (t * 7 + y) p) h
      generalize hvv : sTo u (va_up (nTo u) (t * 7 + y) p) = v at hv
      cases hr : nRdy v n f (t / 35) (t % 35) p with
      | true =>
        by_cases h1 : nFu v = 1
        · rw [nTake_7 hvv.symm h0 h4 hr h1]; exact nInv_down hv
        · rw [nTake_3 hvv.symm h0 h4 (Or.inl ⟨hr, h1, rfl⟩)]
          refine nInv_apply hn _ _ ?_
          split
          · exact nInv_ac (nInv_wr hv (by omega)) (hp.resolve_left (by omega))
          · exact nInv_wr hv (by omega)
      | false =>
        rw [nTake_3 hvv.symm h0 h4 (Or.inr ⟨hr, rfl⟩)]
        refine nInv_apply hn _ _ ?_
        split
        · exact nInv_ac hv (hp.resolve_left (by omega))
        · exact hv
theorem nInv_recv {n f t y : Nat} {u : NS} {p : Int64} (hn : n ≤ 7) (h : nInv n u) : nInv n (nRecv u n f t y p).2 := by
  unfold nRecv
  split
  · exact h
  · rename_i hw
    split
    · exact nInv_take hn h (nWf_pay (by simpa using hw))
    · exact h
theorem digs_dig {f : Nat → Nat} (hf : ∀ c, f c < 8) : ∀ {n c : Nat}, c < n → digs f n / 2 ^ (3 * c) % 8 = f c
  | n + 1, c, hc => by
    have hl := digs_lt hf n
    simp only [digs]
    rcases Nat.lt_or_ge c n with h | h
    · have e : f n * 2 ^ (3 * n) = 2 ^ (3 * c) * (f n * 2 ^ (3 * (n - c))) := by
        rw [Nat.mul_left_comm, ← Nat.pow_add, show 3 * c + 3 * (n - c) = 3 * n by omega]
      rw [e, Nat.add_mul_div_left _ _ (Nat.two_pow_pos _), Nat.add_mod, digs_dig hf h]
      have e2 : f n * 2 ^ (3 * (n - c)) % 8 = 0 := by
        rw [show 3 * (n - c) = 3 * (n - c - 1) + 3 by omega, Nat.pow_add, ← Nat.mul_assoc]
        exact Nat.mul_mod_left _ 8
      rw [e2]
      have := hf c
      omega
    · have e : c = n := by omega
      subst e
      rw [Nat.mul_comm, Nat.add_mul_div_left _ _ (Nat.two_pow_pos _), Nat.div_eq_of_lt hl]
      have := hf c
      omega
theorem digN_digs {f : Nat → Nat} (hf : ∀ c, f c < 8) {n c : Nat} (hn : n ≤ 7) (hc : c < n) : digN (lN (digs f n)) c = f c := by
  unfold digN
  rw [px_lN (by have := digs_21 hf hn; omega), digs_dig hf hc]
theorem nInv_mark {n : Nat} {u : NS} (hn : n ≤ 7) (h : nInv n u) : nInv n (nMarkW u n).2 := by
  unfold nMarkW
  split
  · exact nInv_down h
  · rename_i h1
    show nInv n (nWr u 140 (lN (nMark u n)))
    unfold nWr
    rw [if_neg h1]
    refine ⟨⟨h.1.1, by have := h.1.2.1; show nFu u - 1 ≤ 9; omega, h.1.2.2.1, h.1.2.2.2.1, h.1.2.2.2.2⟩, h.2.1, Or.inr (fun c hc => ?_)⟩
    have e : va_up (nSa u) 140 (lN (nMark u n)) 140 = lN (nMark u n) := if_pos rfl
    show digN (va_up (nSa u) 140 (lN (nMark u n)) 140) c ≤ 5
    rw [e, show nMark u n = digs (nCn u) n from rfl, digN_digs (fun c => by have := h.1.2.2.2.1 c; omega) hn hc]
    exact h.1.2.2.2.1 c
theorem nInv_submit {n me pay amt : Nat} {u : NS} (hme : me < 7) (h : nInv n u) : nInv n (nSubmit u me n pay amt).2 := by
  unfold nSubmit
  split
  · exact h
  · rename_i h5
    split
    · exact h
    · split
      · exact nInv_down h
      · have hw := nInv_wr (n := n) (t := me * 5 + nSu u) (p := lN (pay + 8 * amt + 8192 * nNeeds u me n)) h (by omega)
        exact ⟨⟨hw.1.1, hw.1.2.1, by show nSu u + 1 ≤ 5; omega, hw.1.2.2.2.1, hw.1.2.2.2.2⟩, hw.2.1, hw.2.2⟩
/-! the outer class's writers -/
def eCorrupt (n f fa : Nat) (σ : Nat → NS) (x : Int32) : Bool × Nat × (Nat → NS) := if eCor n σ x = true ∧ fa < f then (true, fa + 1, va_up σ (xN x) (sCo (σ (xN x)) 2)) else (false, fa, σ)
def eSubmit (n : Nat) (σ : Nat → NS) (x y a : Int32) : Int32 × (Nat → NS) :=
  if eUp n σ x = true ∧ isN n y = true ∧ ¬ y = x ∧ ¬ a < nI 1 ∧ a ≤ nI 1023 then ((nSubmit (σ (xN x)) (xN x) n (xN y) (xN a)).1, va_up σ (xN x) (nSubmit (σ (xN x)) (xN x) n (xN y) (xN a)).2) else (-1, σ)
def eRecv (n f : Nat) (σ : Nat → NS) (x t y : Nat) (p : Int64) : Int32 × (Nat → NS) := ((nRecv (σ x) n f t y p).1, va_up σ x (nRecv (σ x) n f t y p).2)
def eForge (n f : Nat) (σ : Nat → NS) (y x hd : Int32) (p : Int64) : Int32 × (Nat → NS) :=
  if eState n σ y = nI 2 ∧ eUp n σ x = true then (match tpc n (hd &&& nI 7) ((hd >>> (nI 3 &&& 31)) &&& nI 7) (hd >>> (nI 6 &&& 31)) with | some t => eRecv n f σ (xN x) t (xN y) p | none => (-3, σ)) else (-1, σ)
def eCarry (n f : Nat) (σ : Nat → NS) (y x k b q : Int32) : Int32 × (Nat → NS) :=
  if eCor n σ y = true ∧ eUp n σ x = true then (match tpc n k b q with | some t => (if nSa (σ (xN y)) t = -1 then (-2, σ) else eRecv n f σ (xN x) t (xN y) (nSa (σ (xN y)) t)) | none => (-2, σ)) else (-1, σ)
def ePumpC (n f : Nat) (σ : Nat → NS) (k : Int32) : Int32 × (Nat → NS) := if ¬ k < nI 1 ∧ k ≤ nI 8 then (nI (ePump n f (xN k) 0 σ).1, (ePump n f (xN k) 0 σ).2) else (-1, σ)
def eCrash (n : Nat) (σ : Nat → NS) (x : Int32) : Bool × (Nat → NS) := if eUp n σ x = true then (true, va_up σ (xN x) (nDown (σ (xN x)))) else (false, σ)
def eRest (n : Nat) (σ : Nat → NS) (x : Int32) : Bool × (Nat → NS) := if eState n σ x = nI 1 then (true, va_up σ (xN x) (sCo (σ (xN x)) 0)) else (false, σ)
def eFuse (n : Nat) (σ : Nat → NS) (x k : Int32) : Bool × (Nat → NS) := if eUp n σ x = true ∧ ¬ k < 0 ∧ k ≤ nI 9 then (true, va_up σ (xN x) (sFu (σ (xN x)) (xN k))) else (false, σ)
def eMark (n : Nat) (σ : Nat → NS) (x : Int32) : Int32 × (Nat → NS) := if eUp n σ x = true then ((nMarkW (σ (xN x)) n).1, va_up σ (xN x) (nMarkW (σ (xN x)) n).2) else (-1, σ)
theorem eInv_up {n x : Nat} {σ : Nat → NS} {u : NS} (hs : ∀ x, x < n → nInv n (σ x)) (hu : nInv n u) : ∀ y, y < n → nInv n (va_up σ x u y) := by
  intro y hy
  unfold va_up
  split
  · exact hu
  · exact hs y hy
theorem ePump_end {n f m k : Nat} {σ : Nat → NS} (h : eFst n σ = 6909) : ePump n f m k σ = (k, σ) := by
  cases m with
  | zero => rfl
  | succ m => simp [ePump, h]
theorem ePump_step {n f m i : Nat} {σ : Nat → NS} (hi : i < m) (h : ¬ eFst n σ = 6909) : ePump n f (m - i) i σ = ePump n f (m - (i + 1)) (i + 1) (va_up σ (eFst n σ % 7) (nRecv (σ (eFst n σ % 7)) n f (eFst n σ / 49) (eFst n σ / 7 % 7) (nSa (σ (eFst n σ / 7 % 7)) (eFst n σ / 49))).2) := by
  obtain ⟨j, hj⟩ : ∃ j, m - i = j + 1 := ⟨m - i - 1, by omega⟩
  rw [hj, show m - (i + 1) = j by omega]
  simp [ePump, h]
theorem eFst_lt {n : Nat} {σ : Nat → NS} (h : ¬ eFst n σ = 6909) : eFst n σ < 6909 ∧ eFst n σ / 7 % 7 < n ∧ eFst n σ % 7 < n := by
  have h1 := fstB_le (P := ePm n σ) 6909 0
  have h2 := fstB_sat (P := ePm n σ) 6909 0 (by unfold eFst at h; omega)
  simp only [ePm, Bool.and_eq_true, decide_eq_true_eq] at h2
  unfold eFst at h ⊢
  exact ⟨by omega, h2.1, h2.2.1⟩
