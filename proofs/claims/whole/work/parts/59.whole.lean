/-! THE CLAIM OUT OF ONE WALK OF THE LAW'S BODY. Your part is whole_start (and what it stands on); all else here is the same for every law, but numbers. -/
def R_law : String := "EchoPaymentsLaw"
def lw_P (b : Addr) (xs : List Int32) (args : Array Value) (s : State) : Prop := args = #[.ref b] ∧ s.IntsAt b xs ∧ xs.length ≤ 3074 ∧ (Jvm.Cond.and given_1 narrow_1).before args s = true
def lw_Q (_ : Array Value) (s : State) (o : Outcome) (t : State) : Prop := o = .returned (some (.int 1)) ∧ Framed s o t [] 600000 7302250
def lw_Z (below : List Frame) (a : Array Value) (s : State) : State → Prop := fun t => ∃ o, t.status = .running ∧ Ended t below o ∧ lw_Q a s o t
/-- the law's own end, with 1 on the stack, nothing written that was there before, its room as the claim has it -/
theorem lw_ret {p : Program} {l : Launch} {e : Env} {s : State} {m : MethodId} {below : List Frame} {meth : Method} {c : Code} {b : Nat} (hx : p.tables.exec = Jvm.exec) (hb : c.code = code) (hr : meth.sig.returnType = ret) (hlocks : meth.locks = false) {pc : Nat} {H : Heap} {ls : Array Slot} (hdg : decode code pc = .ok (.ireturn, 1)) : W p l e room_1 s m #[Value.ref b] below meth c H [] 600000 7302250 (lw_Z below #[Value.ref b] s) (F0 m pc ls [.int 1]) := by
  intro T hT X
  obtain ⟨fs, hret, hrun, hended, hW, hframe⟩ := X.leave (v := some (.int 1)) (hlocks := hlocks) (fun h => by rw [hr] at h; cases h)
  have hmeth' : T.vm.method? m = some meth := X.method'
  refine ⟨T.setFrames fs, ?_, .returned (some (.int 1)), hrun, hended, rfl, ⟨_, rfl⟩, hW, hframe⟩
  jvm_step X.here [X.here.top, hx, hb, hdg, hmeth', hr, ret, narrow_b1]
  (try refine ⟨rfl, ?_⟩); (try refine ⟨rfl, ?_⟩)
  first | (intro acts; rw [hret _ acts rfl rfl rfl]) | rw [hret _ _ rfl rfl rfl]
  exact Steps.refl _
/-- what holds at the law's entry: the machine, the code, the tables' words (any of lw_tbl by 'hts w (by decide +kernel)'), the script of L ints xs at the cell b, what the Statement gives of the start (any of its parts by flat_of_before) -/
def lw_At (p : Program) (s : State) (m : MethodId) (meth : Method) (c : Code) (b L : Nat) (xs : Nat → Int32) : Prop :=
  p.tables.exec = Jvm.exec ∧ c.code = code ∧ meth.sig.returnType = ret ∧ c.maxLocals = 4 ∧ s.vm.findClass R_law = some m.cls ∧ (∀ w ∈ lw_tbl, w.before #[Value.ref b] s = true) ∧ va_X b L xs s s.heap ∧ b < s.heap.size ∧ meth.locks = false ∧ (Jvm.Cond.and given_1 narrow_1).before #[Value.ref b] s = true
theorem lw_K {args : Array Value} {s : State} (hts : ∀ w ∈ WT, w.before args s = true) : ∃ (D : va_G) (cI cJ : ClassId), va_K D vwK (tyl cI cJ) s := by
  obtain ⟨c0, i0, h0⟩ := u_known (C := R_N) (T := T_N) (N := 12) hts in_N0 (hts _ wm_24)
  obtain ⟨c1, i1, h1⟩ := u_known (C := R_E) (T := T_E) (N := 4) hts in_E0 (hts _ wm_10)
  obtain ⟨c2, i2, h2⟩ := u_known (C := R_M) (T := T_M) (N := 15) hts in_M0 (hts _ wm_335)
  obtain ⟨cI, kI, dI, a1, a2, a3⟩ := Cond.arrayClass_spec (hts _ wm_58)
  obtain ⟨cJ, kJ, dJ, b1, b2, b3⟩ := Cond.arrayClass_spec (hts _ wm_57)
  refine ⟨(fun k => match k with | 0 => c0 | 1 => c1 | _ => c2, fun k => match k with | 0 => i0 | 1 => i1 | _ => i2), cI, cJ, ?_, ?_⟩
  · intro k q hq
    match k, hq with
    | 0, hq => cases hq; exact h0
    | 1, hq => cases hq; exact h1
    | 2, hq => cases hq; exact h2
    | k + 3, hq => simp at hq
  · intro k q hq
    match k, hq with
    | 0, hq => cases hq; exact ⟨fun n z => ⟨fun k h => (by cases h), kI, a2, dI, a3⟩, a1⟩
    | 1, hq => cases hq; exact ⟨fun n z => ⟨fun k h => (by cases h), kJ, b2, dJ, b3⟩, b1⟩
    | k + 2, hq => simp at hq
theorem va_D_nil {A : Nat → Prop} : va_D A [] := ⟨fun i j p q h => by simp at h, fun k q h => by simp at h⟩
set_option maxRecDepth 100000 in
set_option maxHeartbeats 4000000 in
theorem whole_start {p : Program} {e : Env} {s : State} {m : MethodId} {below : List Frame} {meth : Method} {c : Code} (l : Launch) {b L : Nat} {xs : Nat → Int32} (hL : L ≤ 3074) (C0 : lw_At p s m meth c b L xs) : W p l e room_1 s m #[Value.ref b] below meth c s.heap [] 0 0 (lw_Z below #[Value.ref b] s) (entryFrame m ([Value.ref b] : List Value).toArray 4) := by
  obtain ⟨hx, hb, hr, hml, hown, hts, hX, hbl, hlk, -⟩ := C0
  have hw : ∀ w ∈ WT, w.before #[Value.ref b] s = true := fun w h => hts w (wt_tbl w h)
  have cx : CallFix p m c code 4 s #[Value.ref b] WT R_L := ⟨hx, hb, hml, hown, hw⟩
  have hAO : va_AO "EchoPayments$Node" s := va_AO.of (hts _ wt_AO)
  obtain ⟨D, cI, cJ, hK⟩ := lw_K hw
  have hl := lv_entry [Value.ref b] (n := 4) (Nat.le_of_ble_eq_true rfl)
  rw [lg_entry_eq]
  have hA : ∀ q, s.heap.size ≤ q → (fun q => s.heap.size ≤ q) q := fun q h => h
  have hbA : ¬ (fun q => s.heap.size ≤ q) b := Nat.not_le.mpr hbl
  have key : Gj p l e room_1 s m #[Value.ref b] below meth c 4 (Bw D vwK (fun q => s.heap.size ≤ q) s.heap) 0 0 (lw_Z below #[Value.ref b] s) 0 [(0, .ref b)] [] [] := by
    refine gj_new (pc := 0) (ci := 1) (C := R_E) (T := T_E) (N := 4) cx hK hA in_E0 ty_E ty_E_ok d_L_law_0 wm_9 wm_10 wm_1 rfl ty_E_def (Nat.le_of_ble_eq_true rfl) (Nat.le_of_ble_eq_true rfl) (fun q => ?_)
    refine gj_dup (pc := 3) cx d_L_law_3 rfl ?_
    refine gj_aload_n (pc := 4) cx d_L_law_4 rfl (x := b) rfl ?_
    refine gj_iconst (pc := 5) cx d_L_law_5 (v := nI 0) (by decide) ?_
    refine gj_cell (pc := 6) (k := 0) (rest := [.ref q, .ref q]) cx hX hbl hbA hL (by omega) (va_cwS 2 cx.2.2.2.2 (good_SL wm_333 wm_331 wm_332 wm_0) rfl rfl rfl (by decide +kernel) ⟨Nat.le_of_ble_eq_true rfl, Nat.le_of_ble_eq_true rfl⟩) (Nat.le_of_ble_eq_true rfl) d_L_law_6 ⟨Nat.le_of_ble_eq_true rfl, Nat.le_of_ble_eq_true rfl⟩ ?_
    refine gj_aload_n (pc := 9) cx d_L_law_9 rfl (x := b) rfl ?_
    refine gj_iconst (pc := 10) cx d_L_law_10 (v := nI 1) (by decide) ?_
    refine gj_cell (pc := 11) (k := 1) (rest := [.int (cellV L xs 0), .ref q, .ref q]) cx hX hbl hbA hL (by omega) (va_cwS 2 cx.2.2.2.2 (good_SL wm_333 wm_331 wm_332 wm_0) rfl rfl rfl (by decide +kernel) ⟨Nat.le_of_ble_eq_true rfl, Nat.le_of_ble_eq_true rfl⟩) (Nat.le_of_ble_eq_true rfl) d_L_law_11 ⟨Nat.le_of_ble_eq_true rfl, Nat.le_of_ble_eq_true rfl⟩ ?_
    refine gj_callE (pc := 14) (q := q) (nd := cellV L xs 0) (sd := cellV L xs 1) (rest := [.ref q]) cx hK hAO hA (cwI 2 cx.2.2.2.2 (good_WL wm_13) rfl rfl rfl (cx.2.2.2.2 _ wm_1) (cx.2.2.2.2 _ wm_11) (cx.2.2.2.2 _ wm_12) rfl (by decide +kernel) ⟨Nat.le_of_ble_eq_true rfl, Nat.le_of_ble_eq_true rfl⟩) (Nat.le_of_ble_eq_true rfl) d_L_law_14 ⟨Nat.le_of_ble_eq_true rfl, Nat.le_of_ble_eq_true rfl⟩ (fun cO hN ad hKo => ?_)
    generalize hnd : cellV L xs 0 = nd
    generalize hsd : cellV L xs 1 = sd
    refine gj_astore_n (pc := 17) cx d_L_law_17 rfl (by decide) (lo' := [(1, .ref q), (0, .ref b)]) rfl ?_
    refine gj_new (pc := 18) (ci := 2) (C := R_M) (T := T_M) (N := 15) cx hK hA in_M0 ty_M ty_M_ok d_L_law_18 wm_334 wm_335 wm_5 rfl ty_M_def (Nat.le_of_ble_eq_true rfl) (Nat.le_of_ble_eq_true rfl) (fun q2 => ?_)
    refine gj_dup (pc := 21) cx d_L_law_21 rfl ?_
    refine gj_aload_n (pc := 22) cx d_L_law_22 rfl (x := b) rfl ?_
    refine gj_iconst (pc := 23) cx d_L_law_23 (v := nI 0) (by decide) ?_
    refine gj_cell (pc := 24) (k := 0) (rest := [.ref q2, .ref q2]) cx hX hbl hbA hL (by omega) (va_cwS 2 cx.2.2.2.2 (good_SL wm_333 wm_331 wm_332 wm_0) rfl rfl rfl (by decide +kernel) ⟨Nat.le_of_ble_eq_true rfl, Nat.le_of_ble_eq_true rfl⟩) (Nat.le_of_ble_eq_true rfl) d_L_law_24 ⟨Nat.le_of_ble_eq_true rfl, Nat.le_of_ble_eq_true rfl⟩ ?_
    rw [hnd]
    refine gj_aload_n (pc := 27) cx d_L_law_27 rfl (x := b) rfl ?_
    refine gj_iconst (pc := 28) cx d_L_law_28 (v := nI 1) (by decide) ?_
    refine gj_cell (pc := 29) (k := 1) (rest := [.int nd, .ref q2, .ref q2]) cx hX hbl hbA hL (by omega) (va_cwS 2 cx.2.2.2.2 (good_SL wm_333 wm_331 wm_332 wm_0) rfl rfl rfl (by decide +kernel) ⟨Nat.le_of_ble_eq_true rfl, Nat.le_of_ble_eq_true rfl⟩) (Nat.le_of_ble_eq_true rfl) d_L_law_29 ⟨Nat.le_of_ble_eq_true rfl, Nat.le_of_ble_eq_true rfl⟩ ?_
    rw [hsd]
    refine gj_callI (pc := 32) (wq := fun a => rW cI cJ a (cN nd) ((cN nd - 1) / 3) (cZ sd) rNew) (wc := mObj0 q2) (As := [.int nd, .int sd]) (rest := [.ref q2]) (ws' := fun a => oW cI cJ cO q hN ad (cN nd) ((cN nd - 1) / 3) 0 (fun _ => nNew (cZ sd)) ++ rW cI cJ a (cN nd) ((cN nd - 1) / 3) (cZ sd) rNew) cx hK hA (fun _ => 0) (fun sz => c_M_init l D cI cJ q2 nd sd sz) (cwI 2 cx.2.2.2.2 (good_WL wm_338) rfl rfl rfl (cx.2.2.2.2 _ wm_5) (cx.2.2.2.2 _ wm_336) (cx.2.2.2.2 _ wm_337) rfl (by decide +kernel) ⟨Nat.le_of_ble_eq_true rfl, Nat.le_of_ble_eq_true rfl⟩) (fun a => gj_J.app) rfl rfl (Nat.le_of_ble_eq_true rfl) d_L_law_32 ⟨Nat.le_of_ble_eq_true rfl, Nat.le_of_ble_eq_true rfl⟩ (fun am ha => ?_)
    subst ha
    refine gj_astore_n (pc := 35) cx d_L_law_35 rfl (by decide) (lo' := [(2, .ref (am 0)), (1, .ref q), (0, .ref b)]) rfl ?_
    refine gj_iconst (pc := 36) cx d_L_law_36 (v := nI 2) (by decide) ?_
    refine gj_istore_n (pc := 37) cx d_L_law_37 rfl (by decide) (lo' := [(3, .int (nI 2)), (2, .ref (am 0)), (1, .ref q), (0, .ref b)]) rfl ?_
    refine law_loop cx hKo hK hA hX hbl hbA hL (fun i fa σ S _ => ?_) L 0 (by omega) (by omega) 0 (fun _ => nNew (cZ sd)) rNew (sim_new nd sd)
    refine gj_iconst (pc := 793) cx d_L_law_793 (v := 1) (by decide) ?_
    intro H locs ls hB _
    refine va_forget (fun q hq => hB.2.2.2.2 q hq) ?_
    refine W.widen (k := 600000) (n := 7302250) (Nat.le_of_ble_eq_true rfl) (Nat.le_of_ble_eq_true rfl) ?_
    exact lw_ret hx hb hr hlk d_L_law_794
  exact key s.heap [] _ ⟨gj_P0, va_D_nil, va_S.rf⟩ hl
set_option maxHeartbeats 4000000 in
theorem lw_walk (l : Launch) (b : Addr) (xs : List Int32) : MetFree l x (headSpec (Jvm.Cond.code x code maxLocals ret :: tables_1) room_1) (lw_P b xs) (fun _ _ _ _ _ => True) lw_Q := by
  refine MetFree.of_bodyS (code := code) (maxLocals := maxLocals) (ret := ret) (by decide) ?_ ?_
  · intro args s m h hn
    obtain ⟨meth, c, h1, h2, h3, h4, h5, h6, -, -⟩ := Cond.code_spec hn (atoms_spec (ws := Jvm.Cond.code x code maxLocals ret :: tables_1) h _ List.mem_cons_self)
    exact ⟨meth, c, h1, h2, h3, h4, h5, h6⟩
  · intro p e s m args below meth c s₁ B hml0 hP _
    obtain ⟨rfl, hx, hbd, hgv⟩ := hP
    obtain ⟨scr, harrAt, hlist, hof, hsmall⟩ := hx
    obtain ⟨hcb, hkn, -, -⟩ := State.arrayAt?_spec harrAt
    have hown : s.vm.findClass R_law = some m.cls := findClass_of_methodNamed B.named
    have hts0 : ∀ c ∈ (Jvm.Cond.code x code maxLocals ret :: tables_1), c.before #[Value.ref b] s = true := atoms_spec (ws := Jvm.Cond.code x code maxLocals ret :: tables_1) B.pre
    have hts : ∀ w ∈ lw_tbl, w.before #[Value.ref b] s = true := k2_hts_sels lw_privs (fun w hw => hts0 w (List.mem_cons_of_mem _ hw)) lw_privs_ok
    have hml : c.maxLocals = 4 := B.maxLocals_eq (hts0 _ List.mem_cons_self)
    have X₀ : Stand p l e room_1 s m #[Value.ref b] below meth c s₁ [] 0 0 := Stand.of_body B
    have hh0 : s₁.heap = s.heap := by rw [B.state]; rfl
    have hsz : scr.slots.size = xs.length := by rw [← Array.length_toList, hlist, List.length_map]
    have hval : ∀ j : Nat, j < xs.length → scr.slots[j]? = some (.int (xs.getD j 0)) := fun j hj => by
      rw [← Array.getElem?_toList, hlist]
      simp [hj]
    have hbl : b < s.heap.size := (Array.getElem?_eq_some_iff.mp hcb).1
    have hX : va_X b xs.length (fun j => xs.getD j 0) s s.heap := ⟨scr, hcb, hof, hkn, hsz, hval⟩
    have K : W p l e room_1 s m #[Value.ref b] below meth c s₁.heap [] 0 0 (lw_Z below #[Value.ref b] s) (entryFrame m ([Value.ref b] : List Value).toArray 4) := by
      rw [hh0]
      exact whole_start l hbd ⟨B.exec, B.bytes, B.returns, hml, hown, hts, hX, hbl, B.notSynchronized, hgv⟩
    obtain ⟨t, a1, o, b1, b2, b3⟩ := K s₁ rfl X₀
    exact ⟨t, o, a1, b1, b2, b3⟩
theorem lw_pre_spec {args : Array Value} {s : State} (h : (Jvm.Cond.and given_1 narrow_1).before args s = true) (hr : rest_1_c.before args s = true) : ∃ (b : Addr) (xs : List Int32), lw_P b xs args s := by
  have hs := flat_of_before _ h
  have hq := flat_of_before _ hr
  have hc : (Cond.count 1).before args s = true := hs _ (by decide +kernel)
  have harr : (Cond.arrayOf (.arg 0) .int).before args s = true := hs _ (by decide +kernel)
  have hle : (Cond.le (.length (.arg 0)) (.int 3074)).before args s = true := hs _ (by decide +kernel)
  have hlen : (Cond.isInt (.length (.arg 0))).before args s = true := hq _ (by decide +kernel)
  have hall : (Cond.all (.arg 0) (.isInt (.elem (.arg 0) (.index 0)))).before args s = true := hq _ (by decide +kernel)
  obtain ⟨b, xs, hb, hx⟩ := State.ints_of_pre rfl harr hlen hall
  have hsm : xs.length < 2 ^ 31 := hx.choose_spec.2.2.2
  have hev : (Term.length (.arg 0)).eval args s none [] s = some (.int xs.length.toInt32) := hx.length_eval hb
  have hv := Cond.le_ints hev (show (Term.int 3074).eval args s none [] s = some (.int 3074) from rfl)
  have hd : xs.length.toInt32 ≤ 3074 := by
    simpa [Cond.before, Cond.holds, hv] using hle
  have hN : xs.length ≤ 3074 := (Int32.ofNat_le_ofNat hsm (by decide)).mp (show Int32.ofNat xs.length ≤ Int32.ofNat 3074 from hd)
  exact ⟨b, xs, Cond.one_arg hc (show args[0]? = some (.ref b) from hb), hx, hN, h⟩
theorem lw_comes (l : Launch) : Comes l x (Jvm.Cond.code x code maxLocals ret :: tables_1) room_1 (fun tb e args s => Calls_1 tb e args s ∧ rest_1 tb e args s ∧ Pre_1 tb e args s)
    (fun _ _ args s o t => lw_Q args s o t) := by
  intro p e ha hc hk s m args below hf hfit hheap happ hpre
  obtain ⟨b, xs, hP⟩ := lw_pre_spec hpre.2.2 hpre.2.1
  obtain ⟨k, o, h1, h2, h3, hQ⟩ := lw_walk l b xs p e ha hc hk s m args below hf ((Spec.applies_iff_loose hf).mp happ).1 hP trivial
  exact ⟨k, o, h1, h2, h3, hQ⟩
theorem lw_frame {s t : State} {o : Outcome} {args : Array Value} (h : Framed s o t [] 600000 7302250) :
    Framed s o t (fieldLocs frame_1_writes args s ++ arrayLocs frame_1_arrays args s ++ staticLocs frame_1_statics s) 600000 7302250 := h
theorem lw_limb (L : Cond) (hL : ∀ (args : Array Value) (s t : State), L.after args s (.returned (some (.int 1))) t = true) :
    ArmFor flags0 classFile x code maxLocals ret World_1 tables_1 room_1 Calls_1 rest_1 Pre_1
      (fun tb e a s o t => postC L tb e a s o t ∧ Framed s o t (fieldLocs frame_1_writes a s ++ arrayLocs frame_1_arrays a s ++ staticLocs frame_1_statics s) 600000 7302250) := by
  intro l _ _ _ p e ha hc hk s m args below hf hfit hheap happ hpre
  obtain ⟨k, o, h1, h2, h3, rfl, hF⟩ := lw_comes l p e ha hc hk s m args below hf hfit hheap happ hpre
  exact ⟨k, _, h1, h2, h3, hL args s _, lw_frame hF⟩
theorem i_vc : Claimed_1_1 ∧ Claimed_1_2 := ⟨lw_limb limb_1_1 (fun args s t => by simp [limb_1_1, Cond.after, Cond.holds, Cond.value]), lw_limb limb_1_2 (fun args s t => Cond.after_iff.mpr (by
  first | (rw [show limb_1_2 = Cond.eq .result (.int 1) from rfl, Cond.eq_ints (x := 1) (y := 1) rfl rfl]; simp; done) | (simp [limb_1_2, Cond.value, Term.eval]; done)))⟩
