/-! The law: what it wants of a relation between class and reference, and its rows -/
def SimB (Sim : Nat → Nat → Int64 → Nat → (Nat → NS) → RS → Prop) : Prop := ∀ n f z fa σ S, Sim n f z fa σ S → n ≤ 7 ∧ f ≤ 7 ∧ fa ≤ 7 ∧ (∀ x, x < n → nInv n (σ x)) ∧ rInv n S
def SimAll (Sim : Nat → Nat → Int64 → Nat → (Nat → NS) → RS → Prop) : Prop :=
  (∀ n f z fa σ S x y a, Sim n f z fa σ S → (eSubmit n σ x y a).1 = (rSubmit S n z x y a).1 ∧ Sim n f z fa (eSubmit n σ x y a).2 (rSubmit S n z x y a).2) ∧
  (∀ n f z fa σ S x, Sim n f z fa σ S → (eCorrupt n f fa σ x).1 = (rCorrupt S n f x).1 ∧ Sim n f z (eCorrupt n f fa σ x).2.1 (eCorrupt n f fa σ x).2.2 (rCorrupt S n f x).2) ∧
  (∀ n f z fa σ S y x hd p, Sim n f z fa σ S → (eForge n f σ y x hd p).1 = (rForge S n f z y x hd p).1 ∧ Sim n f z fa (eForge n f σ y x hd p).2 (rForge S n f z y x hd p).2) ∧
  (∀ n f z fa σ S y x k b q, Sim n f z fa σ S → (eCarry n f σ y x k b q).1 = (rCarry S n f z y x k b q).1 ∧ Sim n f z fa (eCarry n f σ y x k b q).2 (rCarry S n f z y x k b q).2) ∧
  (∀ n f z fa σ S k, Sim n f z fa σ S → (ePumpC n f σ k).1 = (rPumpC S n f z k).1 ∧ Sim n f z fa (ePumpC n f σ k).2 (rPumpC S n f z k).2) ∧
  (∀ n f z fa σ S, Sim n f z fa σ S → ePend n σ = rPend S n) ∧
  (∀ n f z fa σ S x, Sim n f z fa σ S → (eCrash n σ x).1 = (rCrash S n x).1 ∧ Sim n f z fa (eCrash n σ x).2 (rCrash S n x).2) ∧
  (∀ n f z fa σ S x, Sim n f z fa σ S → (eRest n σ x).1 = (rRest S n x).1 ∧ Sim n f z fa (eRest n σ x).2 (rRest S n x).2) ∧
  (∀ n f z fa σ S x k, Sim n f z fa σ S → (eFuse n σ x k).1 = (rFuse S n x k).1 ∧ Sim n f z fa (eFuse n σ x k).2 (rFuse S n x k).2) ∧
  (∀ n f z fa σ S x, Sim n f z fa σ S → (eMark n σ x).1 = (rMark S n x).1 ∧ Sim n f z fa (eMark n σ x).2 (rMark S n x).2) ∧
  (∀ n f z fa σ S x k b q, Sim n f z fa σ S → eSent n σ x k b q = rSent S n x k b q) ∧
  (∀ n f z fa σ S x k b q, Sim n f z fa σ S → eHeard n σ x k b q = rHeard S n x k b q) ∧
  (∀ n f z fa σ S x b q, Sim n f z fa σ S → eAcc n σ x b q = rAcd S n x b q) ∧
  (∀ n f z fa σ S x b, Sim n f z fa σ S → eApd n σ x b = rApd S n x b) ∧
  (∀ n f z fa σ S x b, Sim n f z fa σ S → eBal n σ x b = rBal S n z x b) ∧
  (∀ n f z fa σ S x b, Sim n f z fa σ S → eFrd n σ x b = rFrd S n x b) ∧
  (∀ n f z fa σ S x, Sim n f z fa σ S → eKept n σ x = rKept S n x) ∧
  (∀ n f z fa σ S x, Sim n f z fa σ S → eState n σ x = rState S n x)
theorem gj_J.left {D : va_G} {cl : List vw_C} {A : Nat → Prop} {wc wc' wr : va_W} (he : wc'.map Prod.fst = wc.map Prod.fst) : gj_J D cl A (wc ++ wr) wc wc' (wc' ++ wr) := by
  refine gj_J_of (fun q hq => List.mem_append_left _ hq) (fun hD => ?_) (by rw [List.map_append, List.map_append, he]) (fun hD q hq => ?_)
  · rw [gj_D_iff] at hD ⊢
    refine ⟨?_, fun q hq => hD.2 q (List.mem_append_left _ hq)⟩
    have h := hD.1
    rw [List.map_append] at h
    exact (List.nodup_append.mp h).1
  · rcases List.mem_append.mp hq with h | h
    · exact Or.inl h
    · refine Or.inr ⟨List.mem_append_right _ h, fun r hr e => ?_⟩
      have hn := (gj_D_iff.mp hD).1
      rw [List.map_append, List.nodup_append] at hn
      exact hn.2.2 r.1 (List.mem_map.mpr ⟨r, hr, rfl⟩) q.1 (List.mem_map.mpr ⟨q, h, rfl⟩) e
theorem good_VL {own C : String} {idx : Nat} {y' : MethodName} {b' : ByteArray} {n' : Nat} {r' : Option FieldType} (hc : Cond.code y' b' n' r' ∈ WT) (h1 : Cond.methodLink own idx y' ∈ WT) (h2 : Cond.instanceMethod y' ∈ WT) (h3 : Cond.selects C y' y' ∈ WT) (h4 : Cond.initialized C ∈ WT) : GoodIn WT (wsV own idx C y' (wsM y' b' n' r')) := by
  intro w hw
  have : w ∈ WT := by
    rcases List.mem_append.mp hw with h | h
    · simp only [List.mem_cons, List.not_mem_nil, or_false] at h
      rcases h with rfl | rfl | rfl | rfl
      · exact h1
      · exact h2
      · exact h3
      · exact h4
    · rcases List.mem_cons.mp h with rfl | h
      · exact hc
      · exact h
  exact ⟨this, good_of_word (WT_good _ this)⟩
section LW
variable {p : Program} {l : Launch} {e : Env} {R : Room} {s : State} {m : MethodId} {args : Array Value} {below : List Frame} {meth : Method} {c : Code} {cells slots : Nat} {Q : State → Prop}
variable {nL : Nat} {cc : ByteArray} {Ts : List Cond} {own : String} {pc : Nat} {lo : List (Nat × Value)} {st : List Value}
variable {D : va_G} {cl : List vw_C} {ws : va_W} {A : Nat → Prop} {H0 : Heap}
theorem gj_sld (cx : CallFix p m c cc nL s args Ts own) {b L i : Nat} {xs : Nat → Int32} (hX : va_X b L xs s H0) (hbl : b < H0.size) (hbA : ¬ A b) (hdg : decode cc pc = .ok (.iaload, 1)) (hi : i < L) (hL : L < 2 ^ 31) (kk : Gj p l e R s m args below meth c nL (Bw D cl A H0) cells slots Q (pc + 1) lo (.int (xs i) :: st) ws) : Gj p l e R s m args below meth c nL (Bw D cl A H0) cells slots Q pc lo (.int (nI i) :: .ref b :: st) ws := by
  intro H locs ls hB h
  refine va_sld cx.1 cx.2.1 hX hbl hbA hB.2.2 (vp_in_nI hi hL) hdg ?_
  rw [nI_clamp (by omega)]
  exact kk H locs ls hB h
theorem gj_slen (cx : CallFix p m c cc nL s args Ts own) {b L : Nat} {xs : Nat → Int32} (hX : va_X b L xs s H0) (hbl : b < H0.size) (hbA : ¬ A b) (hdg : decode cc pc = .ok (.arraylength, 1)) (kk : Gj p l e R s m args below meth c nL (Bw D cl A H0) cells slots Q (pc + 1) lo (.int (nI L) :: st) ws) : Gj p l e R s m args below meth c nL (Bw D cl A H0) cells slots Q pc lo (.ref b :: st) ws :=
  fun H locs ls hB h => va_slen cx.1 cx.2.1 hX hbl hbA hB.2.2 hdg (kk H locs ls hB h)
theorem gj_tabIn {ω : Type} {B : ω → Heap → List Loc → Prop} {w : ω} (cx : CallFix p m c cc nL s args Ts own) {dflt lo' hi : Int} {offs : Array Int} {len : Nat} {x : Int32} {off : Int} {tgt : Nat} (hdg : decode cc pc = .ok (.tableswitch dflt lo' hi offs, len)) (h1 : ¬ x.toInt < lo') (h2 : ¬ hi < x.toInt) (ho : offs[(x.toInt - lo').toNat]? = some off) (ht : (pc : Int) + off = (tgt : Int)) (kk : Gj p l e R s m args below meth c nL B cells slots Q tgt lo st w) : Gj p l e R s m args below meth c nL B cells slots Q pc lo (.int x :: st) w :=
  fun H locs ls hB h => lv_tableIn cx.1 cx.2.1 hdg h1 h2 ho ht (kk H locs ls hB h)
theorem gj_tabOut {ω : Type} {B : ω → Heap → List Loc → Prop} {w : ω} (cx : CallFix p m c cc nL s args Ts own) {dflt lo' hi : Int} {offs : Array Int} {len : Nat} {x : Int32} {tgt : Nat} (hdg : decode cc pc = .ok (.tableswitch dflt lo' hi offs, len)) (h : x.toInt < lo' ∨ hi < x.toInt) (ht : (pc : Int) + dflt = (tgt : Int)) (kk : Gj p l e R s m args below meth c nL B cells slots Q tgt lo st w) : Gj p l e R s m args below meth c nL B cells slots Q pc lo (.int x :: st) w :=
  fun H locs ls hB hh => lv_tableOut cx.1 cx.2.1 hdg h ht (kk H locs ls hB hh)
end LW
theorem law_i {L i : Nat} (hL : L ≤ 3074) (hi : i ≤ 2 + 6 * L) (h : ¬ nI L - nI 6 < nI i) : i + 6 ≤ L := by
  rcases Nat.lt_or_ge L (i + 6) with h1 | h1
  · exfalso
    apply h
    rw [Int32.lt_iff_toInt_lt, pk_sub_toInt (by omega) (by omega), nI_toInt (by omega)]
    omega
  · exact h1
theorem law_sw (x : Int32) : ∃ j, j < 32 ∧ x &&& nI 31 = nI j := pk_andE x (m := nI 31) 5 (by decide)
