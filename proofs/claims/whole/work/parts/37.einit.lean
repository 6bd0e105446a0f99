/-! The outer constructor -/
section EI
variable {p : Program} {l : Launch} {e : Env} {R : Room} {s : State} {m : MethodId} {args : Array Value} {below : List Frame} {meth : Method} {c : Code} {cells slots : Nat} {Q : State → Prop}
variable {nL : Nat} {cc : ByteArray} {Ts : List Cond} {own : String} {pc : Nat} {lo : List (Nat × Value)} {st : List Value}
variable {D : va_G} {cl : List vw_C} {tys : List (ClassId × FieldType)} {ws ws' : va_W} {A : Nat → Prop} {H0 : Heap} {a : Nat}
theorem gj_newq (cx : CallFix p m c cc nL s args Ts own) (hK : va_K D cl tys s) (hA : ∀ q, H0.size ≤ q → A q) {C : String} {index N : Nat} (hdg : decode cc pc = .ok (.anewarray index, 3)) (hw : Cond.classLink own index C ∈ Ts) (hover : va_AO C s) (hN : N < 134217728) (hc : cells + 1 ≤ R.cells) (hs : slots + N ≤ R.slots) (kk : ∀ (q : Nat) (cO : ClassId), va_K D cl (tys ++ [(cO, .object C)]) s → Gj p l e R s m args below meth c nL (Bw D cl A H0) (cells + 1) (slots + N) Q (pc + 3) lo (.ref q :: st) (ws ++ [(q, .inl (cO, N, .inr (.inr (.inr (.inr (fun _ => none))))))])) : Gj p l e R s m args below meth c nL (Bw D cl A H0) cells slots Q pc lo (.int (nI N) :: st) ws :=
  fun H locs ls hB h => va_newq (N' := N) cx.1 cx.2.1 cx.2.2.2.1 (cx.2.2.2.2 _ hw) hover hK hB.1 hB.2.1 hB.2.2 hA (nI_pos (by omega)) (nI_clamp (by omega)) (by omega) hc hs hdg (fun q cA H1 hK2 hP hD hS => kk q cA hK2 H1 locs ls ⟨hP, hD, hS⟩ h)
theorem gj_new (cx : CallFix p m c cc nL s args Ts own) (hK : va_K D cl tys s) (hA : ∀ q, H0.size ≤ q → A q) {C : String} {T : u_T} {N ci index : Nat} {fs : List Value} (hin : ∀ z ∈ u_ws C T N, z ∈ Ts) (ty0 : Nat → FieldType) (hty : ∀ k, k < N → parseFieldDescriptor (T k).2.2.1 = some (ty0 k)) (hdg : decode cc pc = .ok (.new index, 3)) (h1 : Cond.classLink own index C ∈ Ts) (h2 : Cond.instantiable C N ∈ Ts) (h3 : Cond.initialized C ∈ Ts) (hc : cl[ci]? = some (C, T, N)) (hfs : ∀ j, j < N → defaultValue (ty0 j) = vp_V fs j) (hcl : cells + 1 ≤ R.cells) (hsl : slots + N ≤ R.slots) (kk : ∀ q : Nat, Gj p l e R s m args below meth c nL (Bw D cl A H0) (cells + 1) (slots + N) Q (pc + 3) lo (.ref q :: st) (ws ++ [(q, .inr (ci, fs))])) : Gj p l e R s m args below meth c nL (Bw D cl A H0) cells slots Q pc lo st ws :=
  fun H locs ls hB h => va_new cx.1 cx.2.1 cx.2.2.2.2 hin ty0 hty cx.2.2.2.1 (cx.2.2.2.2 _ h1) (cx.2.2.2.2 _ h2) (cx.2.2.2.2 _ h3) hK hB.1 hB.2.1 hB.2.2 hA hc hfs hcl hsl hdg (fun q H1 hP hD hS => kk q H1 locs ls ⟨hP, hD, hS⟩ h)
theorem gj_aast (cx : CallFix p m c cc nL s args Ts own) (hK : va_K D cl tys s) {cA : ClassId} {r : vw_C} {n i v ci : Nat} {vs : List Value} {f : Nat → Option Nat} (hdg : decode cc pc = .ok (.aastore, 1)) (q0 t0 : Nat) (ha : ws[q0]? = some (a, .inl (cA, n, .inr (.inr (.inr (.inr f)))))) (ht : tys[t0]? = some (cA, .object r.1)) (hm : (v, (.inr (ci, vs) : va_E)) ∈ ws) (hc : cl[ci]? = some r) (hi : i < n) (hn : n < 2 ^ 31) (hws : ws.set q0 (a, .inl (cA, n, .inr (.inr (.inr (.inr (va_up f i (some v))))))) = ws') (kk : Gj p l e R s m args below meth c nL (Bw D cl A H0) cells slots Q (pc + 1) lo st ws') : Gj p l e R s m args below meth c nL (Bw D cl A H0) cells slots Q pc lo (.ref v :: .int (nI i) :: .ref a :: st) ws := by
  intro H locs ls hB h
  obtain ⟨qk, hv⟩ := List.getElem?_of_mem hm
  refine va_astq cx.1 cx.2.1 hK hB.1 hB.2.1 hB.2.2 q0 t0 qk ci ha ht hv hc (vp_in_nI hi hn) hdg (fun H1 locs1 hP hD hS => ?_)
  rw [nI_clamp (by omega)] at hP hD
  exact kk H1 locs1 ls (hws ▸ ⟨hP, hD, hS⟩) h
theorem gj_arrQ {cA : ClassId} {n : Nat} {f f' : Nat → Option Nat} (q0 : Nat) (ha : ws[q0]? = some (a, .inl (cA, n, .inr (.inr (.inr (.inr f)))))) (hf : ∀ j, j < n → f j = f' j) (hws : ws.set q0 (a, .inl (cA, n, .inr (.inr (.inr (.inr f'))))) = ws') (kk : Gj p l e R s m args below meth c nL (Bw D cl A H0) cells slots Q pc lo st ws') : Gj p l e R s m args below meth c nL (Bw D cl A H0) cells slots Q pc lo st ws := by
  intro H locs ls hB h
  refine kk H locs ls (hws ▸ ⟨?_, hB.2.1.set ha, hB.2.2⟩) h
  refine hB.1.set hB.2.1 ha ?_ (fun _ _ => rfl)
  have h1 : H[a]? = some (vp_cell cA (n, .inr (.inr (.inr (.inr f))))) := hB.1 q0 _ ha
  show H[a]? = some (vp_cell cA (n, .inr (.inr (.inr (.inr f')))))
  rw [h1, vp_cell_q, vp_cell_q]
  have e : (fun j : Fin n => va_rf (f j.val)) = (fun j : Fin n => va_rf (f' j.val)) := by
    funext j
    rw [hf j.val j.isLt]
  unfold arrV
  rw [e]
/-- the callee's cells stand at the world's end -/
theorem gj_J.app {wr wc wc' : va_W} : gj_J D cl A (wr ++ wc) wc wc' (wr ++ wc') := by
  refine ⟨fun H hP => gj_mem hP (fun q hq => List.mem_append_right _ hq), fun hD => ?_, fun H H1 hP hD hk hF hP1 hD1 => ?_⟩
  · rw [gj_D_iff] at hD ⊢
    refine ⟨?_, fun q hq => hD.2 q (List.mem_append_right _ hq)⟩
    have h := hD.1
    rw [List.map_append] at h
    exact (List.nodup_append.mp h).2.1
  · have hn := (gj_D_iff.mp hD).1
    rw [List.map_append, List.nodup_append] at hn
    have apart : ∀ q ∈ wr, q.1 < H.size ∧ ¬ va_A wc H.size q.1 := by
      intro q hq
      obtain ⟨i, hi⟩ := List.getElem?_of_mem (List.mem_append_left wc hq)
      have hlt := (hP i q hi).lt
      refine ⟨hlt, fun z => ?_⟩
      rcases z with ⟨k, e, hz⟩ | z
      · exact hn.2.2 q.1 (List.mem_map.mpr ⟨q, hq, rfl⟩) q.1 (List.mem_map.mpr ⟨(q.1, e), List.mem_of_getElem? hz, rfl⟩) rfl
      · omega
    refine ⟨va_P.app (fun i q hq => ?_) hP1, ?_⟩
    · have hm := List.mem_of_getElem? hq
      obtain ⟨g1, g2⟩ := apart q hm
      obtain ⟨j, hj⟩ := List.getElem?_of_mem (List.mem_append_left wc hm)
      exact (hP j q hj).kept (hk q.1 g1 g2)
    · rw [gj_D_iff] at hD1 ⊢
      refine ⟨?_, fun q hq => ?_⟩
      · rw [List.map_append, List.nodup_append]
        refine ⟨hn.1, hD1.1, fun x hx y hy e => ?_⟩
        obtain ⟨q, hq, rfl⟩ := List.mem_map.mp hx
        obtain ⟨r, hr, rfl⟩ := List.mem_map.mp hy
        exact (apart q hq).2 (by rw [e]; exact hD1.2 r hr)
      · rcases List.mem_append.mp hq with h | h
        · exact (gj_D_iff.mp hD).2 q (List.mem_append_left _ h)
        · exact hF q.1 (hD1.2 q h)
theorem gj_callI {y : MethodName} {wy : List Cond} {rm : Room} {bytes : ByteArray} {maxL k index mc ms b : Nat} {As rest : List Value} {wc : va_W} {S' : Type} {post : S' → Prop} {wq : S' → va_W} {ws' : S' → va_W} (cx : CallFix p m c cc nL s args Ts own) (hK : va_K D cl tys s) (hA : ∀ q, H0.size ≤ q → A q) (u0 : S') (hM : ∀ sz, Met l y wy rm (gj_CW D cl tys wc sz (.ref b :: As)) (va_Qv post (fun u t => va_P D cl (wq u) t.heap ∧ va_D (va_A wc sz) (wq u)) (va_A wc sz)) mc ms (va_A wc sz)) (cw : CallB R s args own index y bytes maxL none wy rm mc ms k ∧ y.name = "<init>" ∧ (Cond.instanceMethod y).before args s = true) (hJ : ∀ u, gj_J D cl A ws wc (wq u) (ws' u)) (hn : As.length = k) (hst : st = As.reverse ++ .ref b :: rest) (hW : (rest.map fun v => v.category).sum ≤ 8) (hdg : decode cc pc = .ok (.invokespecial index, 3)) (hcs : cells + mc ≤ R.cells ∧ slots + ms ≤ R.slots) (kk : ∀ u, post u → Gj p l e R s m args below meth c nL (Bw D cl A H0) (cells + mc) (slots + ms) Q (pc + 3) lo rest (ws' u)) : Gj p l e R s m args below meth c nL (Bw D cl A H0) cells slots Q pc lo st ws := by
  intro H locs ls hB h
  have hPc := (hJ u0).1 H hB.1
  have hDc := (hJ u0).2.1 hB.2.1
  have hF := gj_AF hDc hB.2.2 hA
  refine va_callv (rest := rest) (va_runI (As := As) (rest := rest) cx (hM H.size) cw ⟨(fun a U g mk q => ⟨q.1, q.2.1, q.2.2.1, va_K.moved (u := U) (U := U.calling g mk a) (Vm.Alike.refl U.vm) q.2.2.2.1, q.2.2.2.2⟩), (fun U hU hW => ⟨rfl, by rw [hU], by rw [hU]; exact hPc, va_K.moved hW.alike hK, hDc.weaken (fun _ _ _ _ => trivial)⟩)⟩ rfl hn h.1 hst (lv_room hW) hdg hcs) hB.2.2 (fun q _ h => hF q h) hF (fun u t H1 locs1 ht _ hp hE _ hk hS => ?_)
  obtain ⟨hP1, hD1⟩ := hE
  rw [ht] at hP1
  obtain ⟨hP2, hD2⟩ := (hJ u).2.2 H H1 hB.1 hB.2.1 hk hF hP1 hD1
  exact kk u hp H1 locs1 ls ⟨hP2, hD2, hS⟩ h
end EI
abbrev eObj0 (h : Nat) : va_W := [(h, .inr (1, [.int (nI 0), .int (nI 0), .null, .int (nI 0)]))]
/-- the outer object while its nodes are made: i of them -/
def eNs (cI cJ : ClassId) (ad : Nat → Nat → Nat) (n f : Nat) (z : Int64) (i : Nat) : va_W := (List.range i).flatMap (fun x => nW cI cJ (ad x) x n f (nNew z))
abbrev eHd (cO : ClassId) (h hN n f : Nat) (g : Nat → Option Nat) : va_W := [(h, .inr (1, [.int (nI n), .int (nI f), .ref hN, .int (nI 0)])), (hN, .inl (cO, n, .inr (.inr (.inr (.inr g)))))]
def adP (ad : Nat → Nat → Nat) (i : Nat) (a : Nat → Nat) : Nat → Nat → Nat := fun x => if x = i then a else ad x
theorem eNs_succ (cI cJ : ClassId) (ad : Nat → Nat → Nat) (n f : Nat) (z : Int64) (i : Nat) (a : Nat → Nat) : eNs cI cJ (adP ad i a) n f z (i + 1) = eNs cI cJ ad n f z i ++ nW cI cJ a i n f (nNew z) := by
  unfold eNs
  rw [List.range_succ, List.flatMap_append]
  have e1 : (List.range i).flatMap (fun x => nW cI cJ (adP ad i a x) x n f (nNew z)) = (List.range i).flatMap (fun x => nW cI cJ (ad x) x n f (nNew z)) := by
    rw [List.flatMap_def, List.flatMap_def]
    refine congrArg List.flatten (List.map_congr_left (fun x hx => ?_))
    have : x ≠ i := by have := List.mem_range.mp hx; omega
    show nW cI cJ (if x = i then a else ad x) x n f (nNew z) = _
    rw [if_neg this]
  have e2 : adP ad i a i = a := if_pos rfl
  rw [e1]
  simp [e2]
theorem ty_N_def : ∀ j, j < 12 → defaultValue (ty_N j) = vp_V [.int (nI 0), .int (nI 0), .int (nI 0), .int (nI 0), .int (nI 0), .int (nI 0), .null, .null, .null, .null, .null, .null] j := by
  intro j hj
  match j, hj with
  | 0, _ => rfl
  | 1, _ => rfl
  | 2, _ => rfl
  | 3, _ => rfl
  | 4, _ => rfl
  | 5, _ => rfl
  | 6, _ => rfl
  | 7, _ => rfl
  | 8, _ => rfl
  | 9, _ => rfl
  | 10, _ => rfl
  | 11, _ => rfl
  | k + 12, h => omega
theorem cN_m (x : Int32) : (if nI 4 < (if x < nI 7 then x else nI 7) then (if x < nI 7 then x else nI 7) else nI 4) = nI (cN x) := by
  by_cases h1 : x < nI 4
  · have h2 : x < nI 7 := Int32.lt_of_lt_of_le h1 (by decide)
    rw [if_pos h2, if_neg (Int32.not_lt.mpr (Int32.le_of_lt h1)), cN, if_pos h1]
  · have h1' : nI 4 ≤ x := Int32.not_lt.mp h1
    by_cases h2 : x < nI 7
    · rw [if_pos h2]
      by_cases h3 : nI 4 < x
      · rw [if_pos h3]; exact cN_3 h1' (Int32.le_of_lt h2)
      · rw [if_neg h3, ← cN_3 h1' (Int32.le_of_lt h2)]
        exact Int32.le_antisymm h1' (Int32.not_lt.mp h3)
    · rw [if_neg h2, if_pos (by decide)]
      by_cases h3 : x ≤ nI 7
      · rw [← cN_3 h1' h3]
        exact Int32.le_antisymm (Int32.not_lt.mp h2) h3
      · exact cN_2 h1' h3
theorem cZ_m (x : Int32) : (if nI 0 < (if x < nI 1000 then x else nI 1000) then (if x < nI 1000 then x else nI 1000) else nI 0).toInt64 = cZ x := by
  unfold cZ
  by_cases h1 : x < 0
  · have h2 : x < nI 1000 := Int32.lt_of_lt_of_le h1 (by decide)
    rw [if_pos h2, if_neg (show ¬ nI 0 < x from Int32.not_lt.mpr (Int32.le_of_lt h1)), if_pos h1]
    rfl
  · have h1' : nI 0 ≤ x := Int32.not_lt.mp h1
    rw [if_neg h1]
    by_cases h2 : x < nI 1000
    · rw [if_pos h2, if_neg (Int32.not_lt.mpr (Int32.le_of_lt h2))]
      by_cases h3 : nI 0 < x
      · rw [if_pos h3]
      · rw [if_neg h3, Int32.le_antisymm h1' (Int32.not_lt.mp h3)]
    · rw [if_neg h2, if_pos (by decide)]
      by_cases h3 : nI 1000 < x
      · rw [if_pos h3]; rfl
      · rw [if_neg h3, Int32.le_antisymm (Int32.not_lt.mp h2) (Int32.not_lt.mp h3)]
