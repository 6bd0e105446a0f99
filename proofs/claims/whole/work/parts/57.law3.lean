/-! The law's start: cell, the two objects -/
theorem good_SL {own : String} {idx : Nat} {y' : MethodName} {b' : ByteArray} {n' : Nat} {r' : Option FieldType} (hc : Cond.code y' b' n' r' ∈ WT) (h1 : Cond.methodLink own idx y' ∈ WT) (h2 : Cond.static y' ∈ WT) (h3 : Cond.initialized y'.cls ∈ WT) : GoodIn WT (va_wsS own idx y' (wsM y' b' n' r')) := by
  have g := good_S (y := y') (b := b') (n := n') (r := r') hc h1 h2 h3
  intro w hw
  obtain ⟨g1, g2⟩ := g w hw
  refine ⟨?_, g2⟩
  rcases List.mem_cons.mp g1 with e | e
  · rw [e]; exact hc
  · exact e
theorem good_WL {y' : MethodName} {b' : ByteArray} {n' : Nat} {r' : Option FieldType} (hc : Cond.code y' b' n' r' ∈ WT) : GoodIn WT (wsM y' b' n' r') := by
  intro w hw
  have : w ∈ WT := by
    rcases List.mem_cons.mp hw with rfl | h
    · exact hc
    · exact h
  exact ⟨this, good_of_word (WT_good _ this)⟩
section LWS
variable {p : Program} {l : Launch} {e : Env} {R : Room} {s : State} {m : MethodId} {args : Array Value} {below : List Frame} {meth : Method} {c : Code} {cells slots : Nat} {Q : State → Prop}
variable {nL : Nat} {cc : ByteArray} {Ts : List Cond} {own : String} {pc : Nat} {lo : List (Nat × Value)} {st : List Value}
variable {D : va_G} {cl : List vw_C} {ws : va_W} {A : Nat → Prop} {H0 : Heap} {cI cJ : ClassId}
theorem va_X.lt {b L : Nat} {xs : Nat → Int32} {U : State} {H : Heap} (h : va_X b L xs U H) : b < H.size := by
  obtain ⟨scr, h1, -⟩ := h
  exact (Array.getElem?_eq_some_iff.mp h1).1
theorem gj_sldR (cx : CallFix p m c cc nL s args Ts own) {b L i : Nat} {xs : Nat → Int32} (hX : va_X b L xs s s.heap) (hdg : decode cc pc = .ok (.iaload, 1)) (hi : i < L) (hL : L < 2 ^ 31) (kk : Gj p l e R s m args below meth c nL (Br D cl s.heap) cells slots Q (pc + 1) lo (.int (xs i) :: st) ws) : Gj p l e R s m args below meth c nL (Br D cl s.heap) cells slots Q pc lo (.int (nI i) :: .ref b :: st) ws := by
  intro H locs ls hB h
  obtain ⟨rfl, rfl, hP⟩ := hB
  refine va_sld (A := fun _ => False) cx.1 cx.2.1 hX hX.lt (fun z => z) va_S.rf (vp_in_nI hi hL) hdg ?_
  rw [nI_clamp (by omega)]
  exact kk _ _ ls ⟨rfl, rfl, hP⟩ h
theorem gj_slenR (cx : CallFix p m c cc nL s args Ts own) {b L : Nat} {xs : Nat → Int32} (hX : va_X b L xs s s.heap) (hdg : decode cc pc = .ok (.arraylength, 1)) (kk : Gj p l e R s m args below meth c nL (Br D cl s.heap) cells slots Q (pc + 1) lo (.int (nI L) :: st) ws) : Gj p l e R s m args below meth c nL (Br D cl s.heap) cells slots Q pc lo (.ref b :: st) ws := by
  intro H locs ls hB h
  obtain ⟨rfl, rfl, hP⟩ := hB
  exact va_slen (A := fun _ => False) cx.1 cx.2.1 hX hX.lt (fun z => z) va_S.rf hdg (kk _ _ ls ⟨rfl, rfl, hP⟩ h)
abbrev cellV (L : Nat) (xs : Nat → Int32) (k : Nat) : Int32 := if k < L then xs k else 0
theorem c_L_cell (l : Launch) (b L k : Nat) (xs : Nat → Int32) (hL : L ≤ 3074) (hk : k ≤ 1) : Met l y_L_cell (wsM y_L_cell b_L_cell 2 (some .int)) { frames := 0, cells := 0, slots := 0, locals := 0 } (va_Pc [.ref b, .int (nI k)] (fun U => va_X b L xs U U.heap)) (vp_Si (fun r => r = cellV L xs k)) 0 0 (fun _ => False) := by
  refine Met.ofW (cc := b_L_cell) (maxL := 2) (ret := some .int) (by decide) rfl ?_
  intro p e s m args below meth c s₁ B hml hv
  obtain ⟨rfl, hX⟩ := hv
  have hl := lv_entry [.ref b, .int (nI k)] (n := 2) (Nat.le_of_ble_eq_true rfl)
  rw [lg_entry_eq]
  have cx : CallFix p m c b_L_cell 2 s ([.ref b, .int (nI k)] : List Value).toArray (wsM y_L_cell b_L_cell 2 (some .int)) R_L := ⟨B.exec, B.bytes, hml, findClass_of_methodNamed B.named, atoms_spec (ws := wsM y_L_cell b_L_cell 2 (some .int)) B.pre⟩
  have key : Gj p l e { frames := 0, cells := 0, slots := 0, locals := 0 } s m ([.ref b, .int (nI k)] : List Value).toArray below meth c 2 (Br (fun _ => 0, fun _ _ => 0) [] s.heap) 0 0 (MQ below (vp_Si (fun r => r = cellV L xs k)) ([.ref b, .int (nI k)] : List Value).toArray s 0 0 (fun _ => False)) 0 [(0, .ref b), (1, .int (nI k))] [] [] := by
    refine gj_iload_n (pc := 0) cx d_L_cell_0 rfl (x := nI k) rfl ?_
    refine gj_aload_n (pc := 1) cx d_L_cell_1 rfl (x := b) rfl ?_
    refine gj_slenR (pc := 2) cx hX d_L_cell_2 ?_
    refine gj_icmp_geN (pc := 3) cx d_L_cell_3 (tgt := 12) rfl (by omega) (by omega) (fun hb => ?_) (fun hb => ?_)
    · refine gj_iconst (pc := 12) cx d_L_cell_12 (v := 0) (by decide) ?_
      exact gj_iretR (pc := 13) cx B.returns B.notSynchronized d_L_cell_13 (if_neg (by omega)).symm
    · refine gj_aload_n (pc := 6) cx d_L_cell_6 rfl (x := b) rfl ?_
      refine gj_iload_n (pc := 7) cx d_L_cell_7 rfl (x := nI k) rfl ?_
      refine gj_sldR (pc := 8) (i := k) cx hX d_L_cell_8 (by omega) (by omega) ?_
      refine gj_goto (pc := 9) cx d_L_cell_9 (tgt := 13) rfl ?_
      exact gj_iretR (pc := 13) cx B.returns B.notSynchronized d_L_cell_13 (if_pos (by omega)).symm
  exact key s.heap [] _ ⟨rfl, rfl, gj_P0⟩ hl
theorem gj_cell {b L k : Nat} {xs : Nat → Int32} {index : Nat} {rest : List Value} (cx : CallFix p m c cc nL s args Ts own) (hX : va_X b L xs s H0) (hbl : b < H0.size) (hbA : ¬ A b) (hL : L ≤ 3074) (hk : k ≤ 1) (cw : CallB R s args own index y_L_cell b_L_cell 2 (some .int) (wsM y_L_cell b_L_cell 2 (some .int)) { frames := 0, cells := 0, slots := 0, locals := 0 } 0 0 2 ∧ (Cond.static y_L_cell).before args s = true) (hW : (rest.map fun v => v.category).sum ≤ 8) (hdg : decode cc pc = .ok (.invokestatic index, 3)) (hcs : cells + 0 ≤ R.cells ∧ slots + 0 ≤ R.slots) (kk : Gj p l e R s m args below meth c nL (Bw D cl A H0) cells slots Q (pc + 3) lo (.int (cellV L xs k) :: rest) ws) : Gj p l e R s m args below meth c nL (Bw D cl A H0) cells slots Q pc lo (.int (nI k) :: .ref b :: rest) ws := by
  intro H locs ls hB h
  refine vp_callSi (rest := rest) (va_Run.run (va_runS (As := [.ref b, .int (nI k)]) (rest := rest) cx (c_L_cell l b L k xs hL hk) cw ⟨(fun a U g mk q => ⟨q.1, va_X.moved (u := U) (U := U.calling g mk a) (Vm.Alike.refl U.vm) q.2⟩), (fun U hU hW => ⟨rfl, ?_⟩)⟩ rfl rfl h.1 rfl (lv_room hW) hdg hcs)) (fun r hr => by subst hr; exact kk H locs ls hB h)
  show va_X b L xs U U.heap
  rw [hU]
  exact va_X.moved hW.alike (hX.kept (hB.2.2.2.1 b hbl hbA))
theorem gj_callE {q index : Nat} {nd sd : Int32} {rest : List Value} (cx : CallFix p m c cc nL s args Ts own) (hK : va_K D vwK (tyl cI cJ) s) (hAO : va_AO "EchoPayments$Node" s) (hA : ∀ q, H0.size ≤ q → A q) (cw : CallB R s args own index y_E_init b_E_init 6 none (wsM y_E_init b_E_init 6 none) { frames := 2, cells := 50, slots := 8379, locals := 49 } 50 8379 2 ∧ y_E_init.name = "<init>" ∧ (Cond.instanceMethod y_E_init).before args s = true) (hW : (rest.map fun v => v.category).sum ≤ 8) (hdg : decode cc pc = .ok (.invokespecial index, 3)) (hcs : cells + 50 ≤ R.cells ∧ slots + 8379 ≤ R.slots) (kk : ∀ (cO : ClassId) (hN : Nat) (ad : Nat → Nat → Nat), va_K D vwK (tyo cI cJ cO) s → Gj p l e R s m args below meth c nL (Bw D vwK A H0) (cells + 50) (slots + 8379) Q (pc + 3) lo rest (oW cI cJ cO q hN ad (cN nd) ((cN nd - 1) / 3) 0 (fun _ => nNew (cZ sd)))) : Gj p l e R s m args below meth c nL (Bw D vwK A H0) cells slots Q pc lo (.int sd :: .int nd :: .ref q :: rest) (eObj0 q) := by
  intro H locs ls hB h
  have hPc := hB.1
  have hDc := hB.2.1
  have hF := gj_AF hDc hB.2.2 hA
  refine va_callv (rest := rest) (va_runI (As := [.int nd, .int sd]) (rest := rest) cx (c_E_init l D cI cJ q nd sd H.size) cw ⟨(fun a U g mk z => ⟨z.1, z.2.1, z.2.2.1, va_K.moved (u := U) (U := U.calling g mk a) (Vm.Alike.refl U.vm) z.2.2.2.1, z.2.2.2.2.1, va_AO.moved (u := U) (U := U.calling g mk a) (Vm.Alike.refl U.vm) z.2.2.2.2.2⟩), (fun U hU hW => ⟨rfl, by rw [hU], by rw [hU]; exact hPc, va_K.moved hW.alike hK, hDc.weaken (fun _ _ _ _ => trivial), va_AO.moved hW.alike hAO⟩)⟩ rfl rfl h.1 rfl (lv_room hW) hdg hcs) hB.2.2 (fun q _ h => hF q h) hF (fun u t H1 locs1 ht hal _ hE _ hk hS => ?_)
  obtain ⟨hK1, hP1, hD1⟩ := hE
  rw [ht] at hP1
  exact kk u.1 u.2.1 u.2.2 (va_K.moved hal.symm hK1) H1 locs1 ls ⟨hP1, hD1.weaken (fun k q _ h => hF q.1 h), hS⟩ h
end LWS
theorem ty_E_def : ∀ j, j < 4 → defaultValue (ty_E j) = vp_V [.int (nI 0), .int (nI 0), .null, .int (nI 0)] j := by
  intro j hj
  match j, hj with
  | 0, _ => rfl
  | 1, _ => rfl
  | 2, _ => rfl
  | 3, _ => rfl
  | k + 4, h => omega
theorem ty_M_def : ∀ j, j < 15 → defaultValue (ty_M j) = vp_V [.int (nI 0), .int (nI 0), .long 0, .null, .null, .null, .null, .null, .null, .null, .null, .null, .null, .null, .null] j := by
  intro j hj
  match j, hj with
  | 0, _ => rfl
  | 1, _ => rfl
  | 2, _ => rfl
  | 3, _ => rfl
  | 4, _ => rfl
  | 5, _ => rfl
  | 6, _ => rfl
  | 7, _ => rfl
  | 8, _ => rfl
  | 9, _ => rfl
  | 10, _ => rfl
  | 11, _ => rfl
  | 12, _ => rfl
  | 13, _ => rfl
  | 14, _ => rfl
  | k + 15, h => omega
