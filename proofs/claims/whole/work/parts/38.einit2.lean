/-! The outer constructor's walk; its rows' texts laid by a program (wip/gen) -/
section EIL
variable {p : Program} {l : Launch} {e : Env} {R : Room} {s : State} {m : MethodId} {args : Array Value} {below : List Frame} {meth : Method} {c : Code} {Q : State → Prop} {D : va_G} {A : Nat → Prop} {H0 : Heap}
set_option maxRecDepth 100000 in
set_option maxHeartbeats 4000000 in
theorem eInit_loop (cx : CallFix p m c b_E_init 6 s args (wsM y_E_init b_E_init 6 none) R_E) {cI cJ cO : ClassId} (hK : va_K D vwK (tyo cI cJ cO) s) (hA : ∀ q, H0.size ≤ q → A q) (hR : 50 ≤ R.cells ∧ 8379 ≤ R.slots ∧ 2 ≤ R.frames ∧ 49 ≤ R.locals) (h hN n f : Nat) (z : Int64) (hn : n ≤ 7) (kk : ∀ ad : Nat → Nat → Nat, Gj p l e R s m args below meth c 6 (Bw D vwK A H0) (1 + 7 * n) (n + 1196 * n) Q 97 [(5, .int (nI n)), (3, .long z), (0, .ref h)] [] (eHd cO h hN n f (fun x => if x < n then some (ad x 0) else none) ++ eNs cI cJ ad n f z n)) :
    ∀ i, i ≤ n → ∀ ad : Nat → Nat → Nat, Gj p l e R s m args below meth c 6 (Bw D vwK A H0) (1 + 7 * i) (n + 1196 * i) Q 57 [(5, .int (nI i)), (3, .long z), (0, .ref h)] [] (eHd cO h hN n f (fun x => if x < i then some (ad x 0) else none) ++ eNs cI cJ ad n f z i) := by
  have hKn : va_K D vwK (tyl cI cJ) s := hK.sub [0, 1] rfl
  refine gj_for n (fun i hi ih ad => ?_)
  refine gj_iload (pc := 57) cx d_E_init_57 (x := nI i) rfl ?_
  refine gj_aload_n (pc := 59) cx d_E_init_59 rfl (x := h) rfl ?_
  refine gj_get (pc := 60) (ci := 1) (C := R_E) (T := T_E) (N := 4) (v := .int (nI n)) cx hK gj_wP in_E d_E_init_60 0 rfl rfl 0 (by decide) (in_WT wm_59) rfl ?_
  refine gj_icmp_geN (pc := 63) cx d_E_init_63 (tgt := 97) rfl (by omega) (by omega) (fun hb => ?_) (fun hb => ?_)
  · have e : i = n := by omega
    subst e
    exact kk ad
  · refine gj_aload_n (pc := 66) cx d_E_init_66 rfl (x := h) rfl ?_
    refine gj_get (pc := 67) (ci := 1) (C := R_E) (T := T_E) (N := 4) (v := .ref hN) cx hK gj_wP in_E d_E_init_67 0 rfl rfl 2 (by decide) (in_WT wm_61) rfl ?_
    refine gj_iload (pc := 70) cx d_E_init_70 (x := nI i) rfl ?_
    refine gj_new (pc := 72) (ci := 0) (C := R_N) (T := T_N) (N := 12) cx hK hA in_N ty_N ty_N_ok d_E_init_72 (in_WT wm_23) (in_WT wm_24) (in_WT wm_3) rfl ty_N_def (by omega) (by omega) (fun q => ?_)
    refine gj_dup (pc := 75) cx d_E_init_75 rfl ?_
    refine gj_iload (pc := 76) cx d_E_init_76 (x := nI i) rfl ?_
    refine gj_aload_n (pc := 78) cx d_E_init_78 rfl (x := h) rfl ?_
    refine gj_get (pc := 79) (ci := 1) (C := R_E) (T := T_E) (N := 4) (v := .int (nI n)) cx hK gj_wP in_E d_E_init_79 0 rfl rfl 0 (by decide) (in_WT wm_59) rfl ?_
    refine gj_aload_n (pc := 82) cx d_E_init_82 rfl (x := h) rfl ?_
    refine gj_get (pc := 83) (ci := 1) (C := R_E) (T := T_E) (N := 4) (v := .int (nI f)) cx hK gj_wP in_E d_E_init_83 0 rfl rfl 1 (by decide) (in_WT wm_60) rfl ?_
    refine gj_lload_n (pc := 86) cx d_E_init_86 rfl (x := z) rfl ?_
    refine gj_callI (pc := 87) (wq := fun a => nW cI cJ a i n f (nNew z)) (wc := nObj0 q) (As := [.int (nI i), .int (nI n), .int (nI f), .long z]) (rest := [.ref q, .int (nI i), .ref hN]) (ws' := fun a => (eHd cO h hN n f (fun x => if x < i then some (ad x 0) else none) ++ eNs cI cJ ad n f z i) ++ nW cI cJ a i n f (nNew z)) cx hKn hA (fun _ => 0) (fun sz => c_N_init l D cI cJ q i n f z sz) (cwI 4 cx.2.2.2.2 (good_WT wm_27) rfl rfl rfl (cx.2.2.2.2 _ (in_WT wm_3)) (cx.2.2.2.2 _ (in_WT wm_25)) (cx.2.2.2.2 _ (in_WT wm_26)) rfl (by decide +kernel) ⟨hR.2.2.1, hR.2.2.2⟩) (fun a => gj_J.app) rfl rfl (Nat.le_of_ble_eq_true rfl) d_E_init_87 ⟨by omega, by omega⟩ (fun a ha => ?_)
    subst ha
    refine gj_aast (pc := 90) (r := (R_N, T_N, 12)) (i := i) (v := a 0) (ci := 0) (f := fun x => if x < i then some (ad x 0) else none) (ws' := eHd cO h hN n f (va_up (fun x => if x < i then some (ad x 0) else none) i (some (a 0))) ++ eNs cI cJ ad n f z i ++ nW cI cJ a i n f (nNew z)) cx hK d_E_init_90 1 2 rfl rfl (List.mem_append_right _ List.mem_cons_self) rfl (by omega) (by omega) rfl ?_
    refine gj_iincN (pc := 91) cx d_E_init_91 (k := 0) (d := 1) (lo' := [(5, .int (nI (i + 1))), (3, .long z), (0, .ref h)]) rfl (by decide) (by decide) rfl ?_
    refine gj_goto (pc := 94) cx d_E_init_94 (tgt := 57) rfl ?_
    refine gj_widen (k := 1 + 7 * (i + 1)) (n := n + 1196 * (i + 1)) (by omega) (by omega) ?_
    have hg : va_up (fun x => if x < i then some (ad x 0) else none) i (some (a 0)) = (fun x => if x < i + 1 then some (adP ad i a x 0) else none) := by
      funext x
      unfold va_up adP
      by_cases h1 : x = i
      · subst h1
        rw [if_pos rfl, if_pos (by omega), if_pos rfl]
      · rw [if_neg h1, if_neg h1]
        show (if x < i then some (ad x 0) else none) = _
        by_cases h2 : x < i
        · rw [if_pos h2, if_pos (by omega)]
        · rw [if_neg h2, if_neg (by omega)]
    rw [hg, List.append_assoc, ← eNs_succ]
    exact ih hb (adP ad i a)
end EIL
theorem gj_enterX {l : Launch} {y : MethodName} {wy wy' : List Cond} {rm : Room} {D : va_G} {cl : List vw_C} {tys : List (ClassId × FieldType)} {ws : va_W} {av : List Value} {Qc : Array Value → State → Outcome → State → Prop} {mc ms sz : Nat} {free : Addr → Prop} {cc : ByteArray} {maxL : Nat} {ret : Option FieldType} {own : String} {lo : List (Nat × Value)} {X : State → Prop} (hy : plainName y.cls = true) (hw : wy = Cond.code y cc maxL ret :: wy') (hlen : (lg_sl av).length ≤ maxL) (hown : y.cls = own) (hlo : lv_args 0 av = lo) (hnm : y.name = "<init>")
    (body : ∀ p e s m below meth c, CallFix p m c cc maxL s av.toArray wy own → meth.sig.returnType = ret → meth.locks = false → meth.name = "<init>" → va_K D cl tys s → s.heap.size = sz → X s → Gj p l e rm s m av.toArray below meth c maxL (Bw D cl (va_A ws sz) s.heap) 0 0 (MQ below Qc av.toArray s mc ms free) 0 lo [] ws) : Met l y wy rm (va_Pc av (fun U => U.heap.size = sz ∧ va_P D cl ws U.heap ∧ va_K D cl tys U ∧ va_D (fun _ => True) ws ∧ X U)) Qc mc ms free := by
  refine Met.ofW (cc := cc) (maxL := maxL) (ret := ret) hy hw ?_
  intro p e s m args below meth c s₁ B hml hv
  obtain ⟨rfl, hsz, hP, hK, hD, hX⟩ := hv
  have hl := lv_entry av (n := maxL) hlen
  rw [lg_entry_eq]
  subst hown
  exact body p e s m below meth c ⟨B.exec, B.bytes, hml, findClass_of_methodNamed B.named, atoms_spec (ws := wy) B.pre⟩ B.returns B.notSynchronized ((name_of_methodNamed B.named B.method).1.trans hnm) hK hsz hX s.heap [] _ ⟨hP, hD.self, va_S.rf⟩ (hlo ▸ hl)
set_option maxRecDepth 100000 in
set_option maxHeartbeats 4000000 in
theorem c_E_init (l : Launch) (D : va_G) (cI cJ : ClassId) (h : Nat) (nd sd : Int32) (sz : Nat) : Met l y_E_init (wsM y_E_init b_E_init 6 none) { frames := 2, cells := 50, slots := 8379, locals := 49 } (va_Pc [.ref h, .int nd, .int sd] (fun U => U.heap.size = sz ∧ va_P D vwK (eObj0 h) U.heap ∧ va_K D vwK (tyl cI cJ) U ∧ va_D (fun _ => True) (eObj0 h) ∧ va_AO "EchoPayments$Node" U)) (va_Qv (fun (_ : ClassId × Nat × (Nat → Nat → Nat)) => True) (fun v t => va_K D vwK (tyo cI cJ v.1) t ∧ va_P D vwK (oW cI cJ v.1 h v.2.1 v.2.2 (cN nd) ((cN nd - 1) / 3) 0 (fun _ => nNew (cZ sd))) t.heap ∧ va_D (va_A (eObj0 h) sz) (oW cI cJ v.1 h v.2.1 v.2.2 (cN nd) ((cN nd - 1) / 3) 0 (fun _ => nNew (cZ sd)))) (va_A (eObj0 h) sz)) 50 8379 (va_A (eObj0 h) sz) := by
  have hcb := cN_b nd
  refine gj_enterX (own := R_E) (by decide) rfl (Nat.le_of_ble_eq_true rfl) rfl rfl rfl (fun p e s m below meth c cx hr hlk hini hK hsz hAO => ?_)
  have hA : ∀ q, s.heap.size ≤ q → va_A (eObj0 h) sz q := fun q h => Or.inr (hsz ▸ h)
  refine gj_aload_n (pc := 0) cx d_E_init_0 rfl (x := h) rfl ?_
  refine gj_objInit (pc := 1) cx d_E_init_1 (in_WT wm_14) (in_WT wm_15) (in_WT wm_16) (Nat.le_of_ble_eq_true rfl) (Nat.le_of_ble_eq_true rfl) ?_
  refine gj_aload_n (pc := 4) cx d_E_init_4 rfl (x := h) rfl ?_
  refine gj_iconst (pc := 5) cx d_E_init_5 (v := nI 4) (by decide) ?_
  refine gj_bipush (pc := 6) cx d_E_init_6 (v := nI 7) (by decide) ?_
  refine gj_iload_n (pc := 8) cx d_E_init_8 rfl (x := nd) rfl ?_
  refine gj_mmin (pc := 9) cx d_E_init_9 (in_WT wm_17) (in_WT wm_18) (in_WT wm_2) (in_WT wm_19) (Nat.le_of_ble_eq_true rfl) (Nat.le_of_ble_eq_true rfl) (by show _ ≤ 50; omega) (by show _ ≤ 8379; omega) ?_
  refine gj_mmax (pc := 12) cx d_E_init_12 (in_WT wm_20) (in_WT wm_21) (in_WT wm_2) (in_WT wm_22) (Nat.le_of_ble_eq_true rfl) (Nat.le_of_ble_eq_true rfl) (by show _ ≤ 50; omega) (by show _ ≤ 8379; omega) ?_
  refine gj_toi (y := nI (cN nd)) (cN_m nd) ?_
  refine gj_putF (pc := 15) (ci := 1) (C := R_E) (T := T_E) (N := 4) (ty := .int) (v := .int (nI (cN nd))) (ws' := [(h, .inr (1, [.int (nI (cN nd)), .int (nI 0), .null, .int (nI 0)]))]) cx hK in_E ty_E ty_E_ok nm_E hini d_E_init_15 0 rfl rfl 0 (by decide) (in_WT wm_59) rfl rfl (by decide +kernel) rfl rfl (Nat.le_of_ble_eq_true rfl) rfl ?_
  refine gj_aload_n (pc := 18) cx d_E_init_18 rfl (x := h) rfl ?_
  refine gj_aload_n (pc := 19) cx d_E_init_19 rfl (x := h) rfl ?_
  refine gj_get (pc := 20) (ci := 1) (C := R_E) (T := T_E) (N := 4) (v := .int (nI (cN nd))) cx hK gj_wP in_E d_E_init_20 0 rfl rfl 0 (by decide) (in_WT wm_59) rfl ?_
  refine gj_iconst (pc := 23) cx d_E_init_23 (v := nI 1) (by decide) ?_
  refine gj_isubN (pc := 24) cx d_E_init_24 (by omega) ?_
  refine gj_iconst (pc := 25) cx d_E_init_25 (v := nI 3) (by decide) ?_
  refine gj_idivN (pc := 26) cx d_E_init_26 (by omega) (by omega) (by omega) ?_
  refine gj_putF (pc := 27) (ci := 1) (C := R_E) (T := T_E) (N := 4) (ty := .int) (v := .int (nI ((cN nd - 1) / 3))) (ws' := [(h, .inr (1, [.int (nI (cN nd)), .int (nI ((cN nd - 1) / 3)), .null, .int (nI 0)]))]) cx hK in_E ty_E ty_E_ok nm_E hini d_E_init_27 0 rfl rfl 1 (by decide) (in_WT wm_60) rfl rfl (by decide +kernel) rfl rfl (Nat.le_of_ble_eq_true rfl) rfl ?_
  refine gj_aload_n (pc := 30) cx d_E_init_30 rfl (x := h) rfl ?_
  refine gj_aload_n (pc := 31) cx d_E_init_31 rfl (x := h) rfl ?_
  refine gj_get (pc := 32) (ci := 1) (C := R_E) (T := T_E) (N := 4) (v := .int (nI (cN nd))) cx hK gj_wP in_E d_E_init_32 0 rfl rfl 0 (by decide) (in_WT wm_59) rfl ?_
  refine gj_newq (pc := 35) (N := cN nd) cx hK hA d_E_init_35 (in_WT wm_23) hAO (by omega) (Nat.le_of_ble_eq_true rfl) (by show 0 + cN nd ≤ 8379; omega) (fun hN cO hK2 => ?_)
  have hK : va_K D vwK (tyo cI cJ cO) s := hK2
  refine gj_eq (w' := [(h, .inr (1, [.int (nI (cN nd)), .int (nI ((cN nd - 1) / 3)), .null, .int (nI 0)])), (hN, .inl (cO, cN nd, .inr (.inr (.inr (.inr (fun _ => none))))))]) rfl rfl rfl rfl ?_
  refine gj_putF (pc := 38) (ci := 1) (C := R_E) (T := T_E) (N := 4) (ty := .array (.object "EchoPayments$Node")) (v := .ref hN) (ws' := [(h, .inr (1, [.int (nI (cN nd)), .int (nI ((cN nd - 1) / 3)), .ref hN, .int (nI 0)])), (hN, .inl (cO, cN nd, .inr (.inr (.inr (.inr (fun _ => none))))))]) cx hK in_E ty_E ty_E_ok nm_E hini d_E_init_38 0 rfl rfl 2 (by decide) (in_WT wm_61) rfl rfl (by decide +kernel) rfl rfl (Nat.le_of_ble_eq_true rfl) rfl ?_
  refine gj_iconst (pc := 41) cx d_E_init_41 (v := nI 0) (by decide) ?_
  refine gj_sipush (pc := 42) cx d_E_init_42 (v := nI 1000) (by decide) ?_
  refine gj_iload_n (pc := 45) cx d_E_init_45 rfl (x := sd) rfl ?_
  refine gj_mmin (pc := 46) cx d_E_init_46 (in_WT wm_17) (in_WT wm_18) (in_WT wm_2) (in_WT wm_19) (Nat.le_of_ble_eq_true rfl) (Nat.le_of_ble_eq_true rfl) (by show _ ≤ 50; omega) (by show _ ≤ 8379; omega) ?_
  refine gj_mmax (pc := 49) cx d_E_init_49 (in_WT wm_20) (in_WT wm_21) (in_WT wm_2) (in_WT wm_22) (Nat.le_of_ble_eq_true rfl) (Nat.le_of_ble_eq_true rfl) (by show _ ≤ 50; omega) (by show _ ≤ 8379; omega) ?_
  refine gj_i2l (pc := 52) cx d_E_init_52 (cZ_m sd) ?_
  refine gj_lstore_n (pc := 53) cx d_E_init_53 rfl (lo' := [(3, .long (cZ sd)), (0, .ref h), (1, .int nd), (2, .int sd)]) (by decide) rfl ?_
  refine gj_iconst (pc := 54) cx d_E_init_54 (v := nI 0) (by decide) ?_
  refine gj_istore (pc := 55) cx d_E_init_55 (lo' := [(5, .int (nI 0)), (3, .long (cZ sd)), (0, .ref h), (1, .int nd), (2, .int sd)]) (by decide) rfl ?_
  refine gj_pick (lo' := [(5, .int (nI 0)), (3, .long (cZ sd)), (0, .ref h)]) [0, 1, 2] rfl ?_
  refine gj_widen (k := 1 + 7 * 0) (n := cN nd + 1196 * 0) (Nat.le_refl _) (by omega) ?_
  refine gj_arrQ (f' := fun x => if x < 0 then some ((fun _ _ => 0 : Nat → Nat → Nat) x 0) else none) (ws' := eHd cO h hN (cN nd) ((cN nd - 1) / 3) (fun x => if x < 0 then some ((fun _ _ => 0 : Nat → Nat → Nat) x 0) else none) ++ eNs cI cJ (fun _ _ => 0) (cN nd) ((cN nd - 1) / 3) (cZ sd) 0) 1 rfl (fun j _ => (if_neg (by omega)).symm) rfl ?_
  refine eInit_loop cx hK hA ⟨Nat.le_of_ble_eq_true rfl, Nat.le_of_ble_eq_true rfl, Nat.le_of_ble_eq_true rfl, Nat.le_of_ble_eq_true rfl⟩ h hN (cN nd) ((cN nd - 1) / 3) (cZ sd) (by omega) (fun ad => ?_) 0 (by omega) (fun _ _ => 0)
  refine gj_arrQ (f' := fun x => some (ad x 0)) (ws' := oW cI cJ cO h hN ad (cN nd) ((cN nd - 1) / 3) 0 (fun _ => nNew (cZ sd))) 1 rfl (fun j hj => if_pos hj) rfl ?_
  refine gj_widen (k := 50) (n := 8379) (by omega) (by omega) ?_
  exact gj_vretC (pc := 97) cx hr hlk d_E_init_97 (cO, hN, ad) trivial (fun t ht hP hD => ⟨va_K.moved ht hK, hP, hD⟩)
