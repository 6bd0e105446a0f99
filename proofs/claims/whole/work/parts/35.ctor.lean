/-! Rows for constructors: new arrays, final fields, Object's constructor; their start and end -/
section CT
variable {p : Program} {l : Launch} {e : Env} {R : Room} {s : State} {m : MethodId} {args : Array Value} {below : List Frame} {meth : Method} {c : Code} {cells slots : Nat} {Q : State → Prop}
variable {nL : Nat} {cc : ByteArray} {Ts : List Cond} {own : String} {pc : Nat} {lo : List (Nat × Value)} {st : List Value}
variable {D : va_G} {cl : List vw_C} {tys : List (ClassId × FieldType)} {ws ws' : va_W} {A : Nat → Prop} {H0 : Heap} {a : Nat}
theorem va_K_last {D : va_G} {cl : List vw_C} {tys : List (ClassId × FieldType)} {cA : ClassId} {ty : FieldType} {s : State} (h : va_K D cl (tys ++ [(cA, ty)]) s) : va_RA s cA ty := (h.2 tys.length (cA, ty) (by simp)).2
theorem gj_newaI (cx : CallFix p m c cc nL s args Ts own) (hK : va_K D cl tys s) (hA : ∀ q, H0.size ≤ q → A q) {cI : ClassId} {N : Nat} (hdg : decode cc pc = .ok (.newarray .int, 2)) (hw : Cond.arrayClass .int ∈ Ts) (t0 : Nat) (ht : tys[t0]? = some (cI, .int)) (hN : N < 134217728) (hc : cells + 1 ≤ R.cells) (hs : slots + N ≤ R.slots) (kk : ∀ q : Nat, Gj p l e R s m args below meth c nL (Bw D cl A H0) (cells + 1) (slots + N) Q (pc + 2) lo (.ref q :: st) (ws ++ [(q, .inl (cI, N, .inl (fun _ => nI 0)))])) : Gj p l e R s m args below meth c nL (Bw D cl A H0) cells slots Q pc lo (.int (nI N) :: st) ws := by
  intro H locs ls hB h
  refine va_newa (atype := .int) (ty := .int) (N' := N) (a0 := (N, .inl (fun _ => nI 0))) cx.1 cx.2.1 (cx.2.2.2.2 _ hw) rfl hK hB.1 hB.2.1 hB.2.2 hA (fun cA => rfl) (nI_pos (by omega)) (nI_clamp (by omega)) (by show N * 4 ≤ _; omega) hc hs hdg (fun q cA H1 hK2 hP hD hS => ?_)
  have e1 : s.vm.findClass ("[" ++ FieldType.int.toString) = some cA := va_K_last hK2
  have e2 : s.vm.findClass ("[" ++ FieldType.int.toString) = some cI := (hK.2 t0 _ ht).2
  have e3 : cA = cI := Option.some.inj (e1.symm.trans e2)
  subst e3
  exact kk q H1 locs ls ⟨hP, hD, hS⟩ h
theorem gj_newaJ (cx : CallFix p m c cc nL s args Ts own) (hK : va_K D cl tys s) (hA : ∀ q, H0.size ≤ q → A q) {cJ : ClassId} {N : Nat} (hdg : decode cc pc = .ok (.newarray .long, 2)) (hw : Cond.arrayClass .long ∈ Ts) (t0 : Nat) (ht : tys[t0]? = some (cJ, .long)) (hN : N < 67108864) (hc : cells + 1 ≤ R.cells) (hs : slots + N ≤ R.slots) (kk : ∀ q : Nat, Gj p l e R s m args below meth c nL (Bw D cl A H0) (cells + 1) (slots + N) Q (pc + 2) lo (.ref q :: st) (ws ++ [(q, .inl (cJ, N, .inr (.inl (fun _ => 0))))])) : Gj p l e R s m args below meth c nL (Bw D cl A H0) cells slots Q pc lo (.int (nI N) :: st) ws := by
  intro H locs ls hB h
  refine va_newa (atype := .long) (ty := .long) (N' := N) (a0 := (N, .inr (.inl (fun _ => 0)))) cx.1 cx.2.1 (cx.2.2.2.2 _ hw) rfl hK hB.1 hB.2.1 hB.2.2 hA (fun cA => rfl) (nI_pos (by omega)) (nI_clamp (by omega)) (by show N * 8 ≤ _; omega) hc hs hdg (fun q cA H1 hK2 hP hD hS => ?_)
  have e1 : s.vm.findClass ("[" ++ FieldType.long.toString) = some cA := va_K_last hK2
  have e2 : s.vm.findClass ("[" ++ FieldType.long.toString) = some cJ := (hK.2 t0 _ ht).2
  have e3 : cA = cJ := Option.some.inj (e1.symm.trans e2)
  subst e3
  exact kk q H1 locs ls ⟨hP, hD, hS⟩ h
theorem gj_putF (cx : CallFix p m c cc nL s args Ts own) (hK : va_K D cl tys s) {C : String} {T : u_T} {N ci index : Nat} {fs : List Value} {ty : FieldType} {v : Value} (hin : ∀ z ∈ u_ws C T N, z ∈ Ts) (ty0 : Nat → FieldType) (hty : ∀ k, k < N → parseFieldDescriptor (T k).2.2.1 = some (ty0 k)) (hnm : ∀ a, a < N → ∀ b, b < N → a ≠ b → (T a).2.1 ≠ (T b).2.1) (hini : meth.name = "<init>") (hdg : decode cc pc = .ok (.putfield index, 3)) (q0 : Nat) (he : ws[q0]? = some (a, .inr (ci, fs))) (hc : cl[ci]? = some (C, T, N)) (k : Nat) (hk : k < N) (hlink : Cond.fieldLink own index (T k).1 (T k).2.1 (T k).2.2.1 ∈ Ts) (hfin : (T k).2.2.2 = true) (hdecl : (T k).1 = own) (hd : parseFieldDescriptor (T k).2.2.1 = some ty) (hnr : narrow ty v = v) (hfit : fits ty v = true) (hl : k < fs.length) (hws : ws.set q0 (a, .inr (ci, fs.set k v)) = ws') (kk : Gj p l e R s m args below meth c nL (Bw D cl A H0) cells slots Q (pc + 3) lo st ws') : Gj p l e R s m args below meth c nL (Bw D cl A H0) cells slots Q pc lo (v :: .ref a :: st) ws :=
  fun H locs ls hB h => va_putF cx.1 cx.2.1 cx.2.2.2.2 hin ty0 hty hnm cx.2.2.2.1 hK hB.1 hB.2.1 hB.2.2 q0 he hc k hk (cx.2.2.2.2 _ hlink) (fun _ h9 => h9) hfin hini hdecl hd hnr hfit hl hdg (fun H1 locs1 hP hD hS => kk H1 locs1 ls (hws ▸ ⟨hP, hD, hS⟩) h)
theorem gj_objInit {ω : Type} {B : ω → Heap → List Loc → Prop} {w : ω} (cx : CallFix p m c cc nL s args Ts own) {idx : Nat} (hdg : decode cc pc = .ok (.invokespecial idx, 3)) (h1 : Cond.methodLink own idx objectInit ∈ Ts) (h2 : Cond.instanceMethod objectInit ∈ Ts) (h3 : Cond.code objectInit ⟨#[0xb1]⟩ 1 none ∈ Ts) (hf : 1 ≤ R.frames) (hl : (st.map fun v => v.category).sum + 12 ≤ R.locals) (kk : Gj p l e R s m args below meth c nL B cells slots Q (pc + 3) lo st w) : Gj p l e R s m args below meth c nL B cells slots Q pc lo (.ref a :: st) w :=
  fun H locs ls hB h => W.objInit cx.1 cx.2.1 cx.2.2.2.1 (cx.2.2.2.2 _ h1) (cx.2.2.2.2 _ h2) (cx.2.2.2.2 _ h3) rfl (h.1.trans cx.2.2.1.symm) rfl hdg hf (by show 2 * 0 + _ + 12 ≤ _; omega) (kk H locs ls hB h)
theorem gj_widen {ω : Type} {B : ω → Heap → List Loc → Prop} {w : ω} {k n : Nat} (h1 : cells ≤ k) (h2 : slots ≤ n) (kk : Gj p l e R s m args below meth c nL B k n Q pc lo st w) : Gj p l e R s m args below meth c nL B cells slots Q pc lo st w :=
  fun H locs ls hB h => W.widen h1 h2 (kk H locs ls hB h)
theorem gj_vretC {ws0 : va_W} {sz mc ms : Nat} {S' : Type} {post : S' → Prop} {Bq : S' → State → Prop} (cx : CallFix p m c cc nL s args Ts own) (hr : meth.sig.returnType = none) (hlk : meth.locks = false) (hdg : decode cc pc = .ok (.return_, 1)) (u : S') (hp : post u) (hq : ∀ t : State, s.vm.Alike t.vm → va_P D cl ws t.heap → va_D (va_A ws0 sz) ws → Bq u t) : Gj p l e R s m args below meth c nL (Bw D cl (va_A ws0 sz) s.heap) mc ms (MQ below (va_Qv post Bq (va_A ws0 sz)) args s mc ms (va_A ws0 sz)) pc lo [] ws := by
  intro H locs ls hB h
  exact W.vret cx.1 cx.2.1 hr (fun t ht hW => ⟨⟨u, rfl, hp, hq t hW.alike (by rw [ht]; exact hB.1) hB.2.1⟩, hB.2.2.F ht⟩) hB.2.2.2.2 hdg hlk
end CT
theorem gj_enterC {l : Launch} {y : MethodName} {wy wy' : List Cond} {rm : Room} {D : va_G} {cl : List vw_C} {tys : List (ClassId × FieldType)} {ws : va_W} {av : List Value} {Qc : Array Value → State → Outcome → State → Prop} {mc ms sz : Nat} {free : Addr → Prop} {cc : ByteArray} {maxL : Nat} {ret : Option FieldType} {own : String} {lo : List (Nat × Value)} (hy : plainName y.cls = true) (hw : wy = Cond.code y cc maxL ret :: wy') (hlen : (lg_sl av).length ≤ maxL) (hown : y.cls = own) (hlo : lv_args 0 av = lo) (hnm : y.name = "<init>")
    (body : ∀ p e s m below meth c, CallFix p m c cc maxL s av.toArray wy own → meth.sig.returnType = ret → meth.locks = false → meth.name = "<init>" → va_K D cl tys s → s.heap.size = sz → Gj p l e rm s m av.toArray below meth c maxL (Bw D cl (va_A ws sz) s.heap) 0 0 (MQ below Qc av.toArray s mc ms free) 0 lo [] ws) : Met l y wy rm (gj_CW D cl tys ws sz av) Qc mc ms free := by
  refine Met.ofW (cc := cc) (maxL := maxL) (ret := ret) hy hw ?_
  intro p e s m args below meth c s₁ B hml hv
  obtain ⟨rfl, hsz, hP, hK, hD⟩ := hv
  have hl := lv_entry av (n := maxL) hlen
  rw [lg_entry_eq]
  subst hown
  exact body p e s m below meth c ⟨B.exec, B.bytes, hml, findClass_of_methodNamed B.named, atoms_spec (ws := wy) B.pre⟩ B.returns B.notSynchronized ((name_of_methodNamed B.named B.method).1.trans hnm) hK hsz s.heap [] _ ⟨hP, hD.self, va_S.rf⟩ (hlo ▸ hl)
def mk7 (q0 q1 q2 q3 q4 q5 q6 : Nat) : Nat → Nat := fun k => match k with
  | 0 => q0
  | 1 => q1
  | 2 => q2
  | 3 => q3
  | 4 => q4
  | 5 => q5
  | _ => q6
def mk13 (q0 q1 q2 q3 q4 q5 q6 q7 q8 q9 q10 q11 q12 : Nat) : Nat → Nat := fun k => match k with
  | 0 => q0
  | 1 => q1
  | 2 => q2
  | 3 => q3
  | 4 => q4
  | 5 => q5
  | 6 => q6
  | 7 => q7
  | 8 => q8
  | 9 => q9
  | 10 => q10
  | 11 => q11
  | _ => q12
/-- a node as it is made, and the reference's rows as they are made -/
def nNew (z : Int64) : NS := (0, 0, 0, fun _ => -1, fun _ => 0, fun _ => 0, fun _ => z, fun _ => -1, fun _ => -1)
def rNew : RS := (fun _ => 0, fun _ => 0, fun _ => 0, fun _ => 0, fun _ => 0, fun _ => 0, fun _ => 0, fun _ => 0, fun _ => 0, fun _ => 0, fun _ => 0, fun _ => 0)
abbrev nObj0 (h : Nat) : va_W := [(h, .inr (0, [.int (nI 0), .int (nI 0), .int (nI 0), .int (nI 0), .int (nI 0), .int (nI 0), .null, .null, .null, .null, .null, .null]))]
abbrev mObj0 (h : Nat) : va_W := [(h, .inr (2, [.int (nI 0), .int (nI 0), .long 0, .null, .null, .null, .null, .null, .null, .null, .null, .null, .null, .null, .null]))]
/-- the number of nodes, and the opening balance, out of the constructor's ints -/
def cN (x : Int32) : Nat := if x < nI 4 then 4 else if nI 7 < x then 7 else xN x
def cZ (x : Int32) : Int64 := if x < 0 then 0 else if nI 1000 < x then 1000 else x.toInt64
theorem cN_b (x : Int32) : 4 ≤ cN x ∧ cN x ≤ 7 := by
  unfold cN
  split
  · omega
  · rename_i h1
    split
    · omega
    · rename_i h2
      obtain ⟨j, hj, rfl⟩ := nI_of2 (x := x) (M := 7) (n := 7) (by decide) (fun z => h1 (Int32.lt_of_lt_of_le z (by decide))) (Int32.not_lt.mp h2)
      rw [xN_nI (by omega)]
      refine ⟨?_, hj⟩
      rcases Nat.lt_or_ge j 4 with z | z
      · exact absurd ((nI_ltI (a := j) (b := 4) (by omega) (by omega)).mpr z) h1
      · exact z
theorem cN_1 {x : Int32} (h : ¬ nI 4 ≤ x) : nI 4 = nI (cN x) := by rw [cN, if_pos (Int32.not_le.mp h)]
theorem cN_2 {x : Int32} (h : nI 4 ≤ x) (h2 : ¬ x ≤ nI 7) : nI 7 = nI (cN x) := by rw [cN, if_neg (Int32.not_lt.mpr h), if_pos (Int32.not_le.mp h2)]
theorem cN_3 {x : Int32} (h : nI 4 ≤ x) (h2 : x ≤ nI 7) : x = nI (cN x) := by
  rw [cN, if_neg (Int32.not_lt.mpr h), if_neg (Int32.not_lt.mpr h2)]
  obtain ⟨j, hj, rfl⟩ := nI_of2 (x := x) (M := 7) (n := 7) (by decide) (fun z => absurd (Int32.lt_of_le_of_lt h z) (by decide)) h2
  rw [xN_nI (by omega)]
