/-! The whole object: its cells, and a node's part of them -/
theorem gj_mem {D : va_G} {cl : List vw_C} {ws wc : va_W} {H : Heap} (h : va_P D cl ws H) (hs : ∀ q ∈ wc, q ∈ ws) : va_P D cl wc H := by
  intro k q hk
  obtain ⟨i, hi⟩ := List.getElem?_of_mem (hs q (List.mem_of_getElem? hk))
  exact h i q hi
theorem gj_D_iff {A : Nat → Prop} {ws : va_W} : va_D A ws ↔ (ws.map Prod.fst).Nodup ∧ ∀ q ∈ ws, A q.1 := by
  constructor
  · intro h
    refine ⟨?_, fun q hq => ?_⟩
    · unfold List.Nodup
      rw [List.pairwise_map, List.pairwise_iff_getElem]
      intro i j hi hj hij e
      have := h.1 i j ws[i] ws[j] (List.getElem?_eq_getElem hi) (List.getElem?_eq_getElem hj) e
      omega
    · obtain ⟨i, hi⟩ := List.getElem?_of_mem hq
      exact h.2 i q hi
  · intro ⟨h1, h2⟩
    unfold List.Nodup at h1
    rw [List.pairwise_map, List.pairwise_iff_getElem] at h1
    refine ⟨fun i j p q hi hj e => ?_, fun k q hk => h2 q (List.mem_of_getElem? hk)⟩
    obtain ⟨li, rfl⟩ := List.getElem?_eq_some_iff.mp hi
    obtain ⟨lj, rfl⟩ := List.getElem?_eq_some_iff.mp hj
    rcases Nat.lt_trichotomy i j with h | h | h
    · exact absurd e (h1 i j li lj h)
    · exact h
    · exact absurd e.symm (h1 j i lj li h)
theorem gj_J_of {D : va_G} {cl : List vw_C} {A : Nat → Prop} {ws wc wc' ws' : va_W} (hs : ∀ q ∈ wc, q ∈ ws) (hsub : va_D A ws → va_D A wc) (haddr : ws'.map Prod.fst = ws.map Prod.fst) (hnew : va_D A ws → ∀ q ∈ ws', q ∈ wc' ∨ (q ∈ ws ∧ ∀ r ∈ wc, r.1 ≠ q.1)) : gj_J D cl A ws wc wc' ws' := by
  refine ⟨fun H hP => gj_mem hP hs, hsub, fun H H1 hP hD hk _ hP1 _ => ⟨fun i q hq => ?_, ?_⟩⟩
  · rcases hnew hD q (List.mem_of_getElem? hq) with h | ⟨h, hne⟩
    · obtain ⟨j, hj⟩ := List.getElem?_of_mem h
      exact hP1 j q hj
    · obtain ⟨j, hj⟩ := List.getElem?_of_mem h
      have hlt := (hP j q hj).lt
      refine (hP j q hj).kept (hk q.1 hlt (fun z => ?_))
      rcases z with ⟨k2, e, hz⟩ | z
      · exact hne _ (List.mem_of_getElem? hz) rfl
      · omega
  · rw [gj_D_iff] at hD ⊢
    refine ⟨by rw [haddr]; exact hD.1, fun q hq => ?_⟩
    have h1 : q.1 ∈ ws'.map Prod.fst := List.mem_map.mpr ⟨q, hq, rfl⟩
    rw [haddr] at h1
    obtain ⟨r, hr, e⟩ := List.mem_map.mp h1
    rw [← e]
    exact hD.2 r hr
abbrev tyo (cI cJ cO : ClassId) : List (ClassId × FieldType) := [(cI, .int), (cJ, .long), (cO, .object "EchoPayments$Node")]
def oN (cI cJ : ClassId) (ad : Nat → Nat → Nat) (n f : Nat) (σ : Nat → NS) : va_W := (List.range n).flatMap (fun x => nW cI cJ (ad x) x n f (σ x))
def oW (cI cJ cO : ClassId) (h hN : Nat) (ad : Nat → Nat → Nat) (n f fa : Nat) (σ : Nat → NS) : va_W :=
  (h, .inr (1, [.int (nI n), .int (nI f), .ref hN, .int (nI fa)])) :: (hN, .inl (cO, n, .inr (.inr (.inr (.inr (fun x => some (ad x 0))))))) :: oN cI cJ ad n f σ
theorem nW_fst (cI cJ : ClassId) (a : Nat → Nat) (me n f : Nat) (u : NS) : (nW cI cJ a me n f u).map Prod.fst = [a 0, a 1, a 2, a 3, a 4, a 5, a 6] := rfl
theorem oN_fst (cI cJ : ClassId) (ad : Nat → Nat → Nat) (n f : Nat) (σ : Nat → NS) : (oN cI cJ ad n f σ).map Prod.fst = (List.range n).flatMap (fun x => [ad x 0, ad x 1, ad x 2, ad x 3, ad x 4, ad x 5, ad x 6]) := by
  unfold oN
  rw [List.map_flatMap]
  rfl
theorem oW_fst (cI cJ cO : ClassId) (h hN : Nat) (ad : Nat → Nat → Nat) (n f fa : Nat) (σ : Nat → NS) : (oW cI cJ cO h hN ad n f fa σ).map Prod.fst = h :: hN :: (List.range n).flatMap (fun x => [ad x 0, ad x 1, ad x 2, ad x 3, ad x 4, ad x 5, ad x 6]) := by
  show h :: hN :: (oN cI cJ ad n f σ).map Prod.fst = _
  rw [oN_fst]
section OW
variable {D : va_G} {cl : List vw_C} {A : Nat → Prop} {cI cJ cO : ClassId} {h hN : Nat} {ad : Nat → Nat → Nat} {n f fa : Nat} {σ : Nat → NS} {x : Nat}
theorem oW_mem (hx : x < n) : ∀ q ∈ nW cI cJ (ad x) x n f (σ x), q ∈ oW cI cJ cO h hN ad n f fa σ :=
  fun q hq => List.mem_cons_of_mem _ (List.mem_cons_of_mem _ (List.mem_flatMap.mpr ⟨x, List.mem_range.mpr hx, hq⟩))
theorem oW_P (hx : x < n) {H : Heap} (hP : va_P D cl (oW cI cJ cO h hN ad n f fa σ) H) : va_P D cl (nW cI cJ (ad x) x n f (σ x)) H := gj_mem hP (oW_mem hx)
theorem oW_D (hx : x < n) (hD : va_D A (oW cI cJ cO h hN ad n f fa σ)) : va_D A (nW cI cJ (ad x) x n f (σ x)) := by
  rw [gj_D_iff] at hD ⊢
  refine ⟨?_, fun q hq => hD.2 q (oW_mem hx q hq)⟩
  have h1 := hD.1
  rw [oW_fst] at h1
  unfold List.Nodup at h1 ⊢
  have h2 := (List.pairwise_cons.mp (List.pairwise_cons.mp h1).2).2
  rw [List.pairwise_flatMap] at h2
  exact h2.1 x (List.mem_range.mpr hx)
/-- a cell's address in a node's list is one of seven -/
theorem nW_ad {a : Nat → Nat} {me : Nat} {u : NS} {q : Nat × va_E} (hq : q ∈ nW cI cJ a me n f u) : q.1 ∈ [a 0, a 1, a 2, a 3, a 4, a 5, a 6] := by
  have : q.1 ∈ (nW cI cJ a me n f u).map Prod.fst := List.mem_map.mpr ⟨q, hq, rfl⟩
  exact this
theorem oW_J (hx : x < n) (u : NS) : gj_J D cl A (oW cI cJ cO h hN ad n f fa σ) (nW cI cJ (ad x) x n f (σ x)) (nW cI cJ (ad x) x n f u) (oW cI cJ cO h hN ad n f fa (va_up σ x u)) := by
  refine gj_J_of (oW_mem hx) (oW_D hx) (by rw [oW_fst, oW_fst]) (fun hD q hq => ?_)
  have h1 := (gj_D_iff.mp hD).1
  rw [oW_fst] at h1
  unfold List.Nodup at h1
  obtain ⟨h2, h3⟩ := List.pairwise_cons.mp h1
  obtain ⟨h4, h5⟩ := List.pairwise_cons.mp h3
  rw [List.pairwise_flatMap] at h5
  have hin : ∀ r ∈ nW cI cJ (ad x) x n f (σ x), r.1 ∈ (List.range n).flatMap (fun x => [ad x 0, ad x 1, ad x 2, ad x 3, ad x 4, ad x 5, ad x 6]) := fun r hr => List.mem_flatMap.mpr ⟨x, List.mem_range.mpr hx, nW_ad hr⟩
  rcases List.mem_cons.mp hq with rfl | hq
  · exact Or.inr ⟨List.mem_cons_self, fun r hr e => h2 r.1 (List.mem_cons_of_mem _ (hin r hr)) e.symm⟩
  · rcases List.mem_cons.mp hq with rfl | hq
    · exact Or.inr ⟨List.mem_cons_of_mem _ List.mem_cons_self, fun r hr e => h4 r.1 (hin r hr) e.symm⟩
    · obtain ⟨y, hy, hq⟩ := List.mem_flatMap.mp hq
      by_cases e : y = x
      · subst e
        left
        have : va_up σ y u y = u := if_pos rfl
        rw [this] at hq
        exact hq
      · right
        have e2 : va_up σ x u y = σ y := if_neg e
        rw [e2] at hq
        refine ⟨oW_mem (List.mem_range.mp hy) q hq, fun r hr e3 => ?_⟩
        have h6 := h5.2
        rw [List.pairwise_iff_getElem] at h6
        have hyn := List.mem_range.mp hy
        rcases Nat.lt_or_gt_of_ne e with lt | lt
        · have := h6 y x (by simpa using hyn) (by simpa using hx) lt
          simp only [List.getElem_range] at this
          exact this q.1 (nW_ad hq) r.1 (nW_ad hr) e3.symm
        · have := h6 x y (by simpa using hx) (by simpa using hyn) lt
          simp only [List.getElem_range] at this
          exact this r.1 (nW_ad hr) q.1 (nW_ad hq) e3
end OW
def xN (x : Int32) : Nat := x.toNatClampNeg
def isN (n : Nat) (x : Int32) : Bool := decide (0 ≤ x) && decide (x < nI n)
theorem isN_of {n : Nat} (hn : n ≤ 7) {x : Int32} (h : isN n x = true) : ∃ k, k < n ∧ x = nI k := by
  simp only [isN, Bool.and_eq_true, decide_eq_true_eq] at h
  rcases pk_ix x (n := n) (by omega) with h1 | h1 | h1
  · exact absurd h.1 (Int32.not_le.mpr h1)
  · exact absurd h.2 (Int32.not_lt.mpr h1)
  · exact h1
theorem isN_nI {n k : Nat} (hn : n ≤ 7) (hk : k < n) : isN n (nI k) = true := by
  simp only [isN, Bool.and_eq_true, decide_eq_true_eq]
  exact ⟨nI_pos' (by omega), (nI_ltI (by omega) (by omega)).mpr hk⟩
theorem xN_nI {k : Nat} (hk : k < 2147483648) : xN (nI k) = k := nI_clamp hk
/-- a topic by kind, account and number, where there is one -/
def tpc (n : Nat) (k b q : Int32) : Option Nat :=
  if k = 4 then (if b = 0 ∧ q = 0 then some 140 else none)
  else if k < 0 ∨ 3 < k ∨ isN n b = false ∨ q < 1 ∨ 5 < q then none else some ((xN k * 7 + xN b) * 5 + xN q - 1)
def tpI (o : Option Nat) : Int32 := match o with
  | none => -1
  | some t => nI t
/-- what node y has sent on topic t, and node x would take -/
def ePd (σ : Nat → NS) (t y x : Nat) : Bool := decide (nSa (σ y) t ≠ -1) && (decide (nCo (σ y) ≠ 2) && nWould (σ x) t y (nSa (σ y) t))
def ePm (n : Nat) (σ : Nat → NS) (k : Nat) : Bool := decide (k / 7 % 7 < n) && (decide (k % 7 < n) && ePd σ (k / 49) (k / 7 % 7) (k % 7))
def eFst (n : Nat) (σ : Nat → NS) : Nat := fstB (ePm n σ) 6909 0
def msk (P : Nat → Bool) : Nat → Nat
  | 0 => 0
  | k + 1 => msk P k + (if P k = true then 2 ^ k else 0)
def eTak (n : Nat) (σ : Nat → NS) (t y : Nat) : Nat := msk (ePd σ t y) n
def sumN (F : Nat → Nat) : Nat → Nat
  | 0 => 0
  | k + 1 => sumN F k + F k
def ePend (n : Nat) (σ : Nat → NS) : Nat := sumN (fun t => sumN (fun y => cntB (ePd σ t y) n) n) 141
def ePump (n f : Nat) : Nat → Nat → (Nat → NS) → Nat × (Nat → NS)
  | 0, k, σ => (k, σ)
  | m + 1, k, σ =>
    if eFst n σ = 6909 then (k, σ)
    else ePump n f m (k + 1) (va_up σ (eFst n σ % 7) (nRecv (σ (eFst n σ % 7)) n f (eFst n σ / 49) (eFst n σ / 7 % 7) (nSa (σ (eFst n σ / 7 % 7)) (eFst n σ / 49))).2)
def eUp (n : Nat) (σ : Nat → NS) (x : Int32) : Bool := isN n x && decide (nCo (σ (xN x)) = 0)
def eCor (n : Nat) (σ : Nat → NS) (x : Int32) : Bool := isN n x && decide (nCo (σ (xN x)) ≠ 2)
def eState (n : Nat) (σ : Nat → NS) (x : Int32) : Int32 := if isN n x = true then nI (nCo (σ (xN x))) else -1
