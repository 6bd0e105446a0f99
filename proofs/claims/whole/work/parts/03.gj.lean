/-! The judgement Gj: the machine at a frame, for every heap that holds the world w and for all locals that hold lo. Br: the world of a method that only reads; Bw: of one that writes. -/
def Gj {ω : Type} (p : Program) (l : Launch) (e : Env) (R : Room) (s : State) (m : MethodId) (args : Array Value) (below : List Frame) (meth : Method) (c : Code) (nL : Nat) (B : ω → Heap → List Loc → Prop) (cells slots : Nat) (Q : State → Prop) (pc : Nat) (lo : List (Nat × Value)) (st : List Value) (w : ω) : Prop :=
  ∀ (H : Heap) (locs : List Loc) (ls : Array Slot), B w H locs → lv_has ls nL lo → W p l e R s m args below meth c H locs cells slots Q (F0 m pc ls st)
def Br (D : va_G) (cl : List vw_C) (H0 : Heap) : va_W → Heap → List Loc → Prop := fun ws H locs => H = H0 ∧ locs = [] ∧ va_P D cl ws H
def Bw (D : va_G) (cl : List vw_C) (A : Nat → Prop) (H0 : Heap) : va_W → Heap → List Loc → Prop := fun ws H locs => va_P D cl ws H ∧ va_D A ws ∧ va_S A H0 H locs
theorem gj_rP {D : va_G} {cl : List vw_C} {H0 : Heap} {ws : va_W} : ∀ H locs, Br D cl H0 ws H locs → va_P D cl ws H := fun _ _ h => h.2.2
theorem gj_wP {D : va_G} {cl : List vw_C} {A : Nat → Prop} {H0 : Heap} {ws : va_W} : ∀ H locs, Bw D cl A H0 ws H locs → va_P D cl ws H := fun _ _ h => h.1
theorem gj_lk {lo : List (Nat × Value)} {i : Nat} {v : Value} (h : lo.lookup i = some v) : (i, v) ∈ lo := by
  induction lo with
  | nil => cases h
  | cons q lo ih =>
    obtain ⟨j, u⟩ := q
    simp only [List.lookup] at h
    split at h
    · rename_i he
      have he : i = j := by simpa using he
      subst he
      cases h
      exact List.mem_cons_self
    · exact List.mem_cons_of_mem _ (ih h)
/-- downward: a counted loop -/
theorem gj_for {P : Nat → Prop} (n : Nat) (h : ∀ i, i ≤ n → (i < n → P (i + 1)) → P i) : ∀ i, i ≤ n → P i := by
  have key : ∀ k i, i ≤ n → n - i = k → P i := by
    intro k
    induction k with
    | zero => intro i hi hk; exact h i hi (fun hlt => by omega)
    | succ k ih => intro i hi hk; exact h i hi (fun hlt => ih (i + 1) (by omega) (by omega))
  intro i hi
  exact key (n - i) i hi rfl
/-- the same for a frame: locals and world by the count -/
theorem gj_forG {G : Nat → List (Nat × Value) → List Value → va_W → Prop} (n pc : Nat) (lo : Nat → List (Nat × Value)) (w : Nat → va_W) (h : ∀ i, i ≤ n → (i < n → G pc (lo (i + 1)) [] (w (i + 1))) → G pc (lo i) [] (w i)) (i : Nat) (hi : i ≤ n) : G pc (lo i) [] (w i) := gj_for (P := fun i => G pc (lo i) [] (w i)) n h i hi
theorem gj_forH {G : Nat → List (Nat × Value) → List Value → va_W → Prop} (Hy : Nat → Prop) (n pc : Nat) (lo : Nat → List (Nat × Value)) (w : Nat → va_W) (h : ∀ i, i ≤ n → (i < n → Hy (i + 1) → G pc (lo (i + 1)) [] (w (i + 1))) → Hy i → G pc (lo i) [] (w i)) (i : Nat) (hi : i ≤ n) (hh : Hy i) : G pc (lo i) [] (w i) := gj_for (P := fun i => Hy i → G pc (lo i) [] (w i)) n h i hi hh
/-- a loop over states of any type -/
theorem gj_forS {σ : Type} {G : Nat → List (Nat × Value) → List Value → va_W → Prop} (Hy : Nat → σ → Prop) (n pc : Nat) (lo : Nat → σ → List (Nat × Value)) (w : Nat → σ → va_W) (h : ∀ i, i ≤ n → (i < n → ∀ x, Hy (i + 1) x → G pc (lo (i + 1) x) [] (w (i + 1) x)) → ∀ x, Hy i x → G pc (lo i x) [] (w i x)) (i : Nat) (hi : i ≤ n) (x : σ) (hh : Hy i x) : G pc (lo i x) [] (w i x) := gj_for (P := fun i => ∀ x, Hy i x → G pc (lo i x) [] (w i x)) n h i hi x hh
/-- a loop by a measure -/
theorem gj_meas {σ : Type} {P : σ → Prop} (μ : σ → Nat) (h : ∀ x, (∀ y, μ y < μ x → P y) → P x) : ∀ x, P x := by
  have key : ∀ k x, μ x ≤ k → P x := by
    intro k
    induction k with
    | zero => intro x hx; exact h x (fun y hy => by omega)
    | succ k ih => intro x hx; exact h x (fun y hy => ih y (by omega))
  intro x
  exact key (μ x) x (Nat.le_refl _)
def bI (b : Bool) : Int32 := if b then 1 else 0
theorem bI_n (b : Bool) : narrow .boolean (.int (bI b)) = .int (bI b) := by cases b <;> rfl
theorem bI_0 {b : Bool} (h : bI b = 0) : b = false := by cases b; rfl; exact absurd h (by decide)
theorem bI_1 {b : Bool} (h : ¬ bI b = 0) : b = true := by cases b; exact absurd rfl h; rfl
theorem gj_upd {f : Nat → Nat} {k v : Nat} : upd (fun j => nI (f j)) k (nI v) = fun j => nI (va_up f k v j) := by
  funext j
  by_cases h : j = k <;> simp [upd, va_up, h]
theorem gj_dec {n : Nat} (h : 1 ≤ n) : nI n + Int32.ofInt (-1) = nI (n - 1) := by
  obtain ⟨k, rfl⟩ : ∃ k, n = k + 1 := ⟨n - 1, by omega⟩
  rw [Nat.add_sub_cancel]
  exact pk_m1 k
theorem gj_i31 {n : Nat} (h : n < 2147483648) : n < 2 ^ 31 := h
theorem gj_shlN {n k : Nat} (hk : k < 32) (h : n * 2 ^ k < 2 ^ 32) : nI n <<< (nI k &&& 31) = nI (n * 2 ^ k) := by
  refine pk_shlN _ k ?_ h
  have : ∀ k : Fin 32, ((nI k.val &&& 31).toBitVec.smod 32).toNat = k.val := by decide +kernel
  exact this ⟨k, hk⟩
theorem gj_shrN {n k : Nat} (hk : k < 32) (h : n < 2 ^ 31) : nI n >>> (nI k &&& 31) = nI (n / 2 ^ k) := by
  refine pk_shrN h _ k ?_
  have : ∀ k : Fin 32, ((nI k.val &&& 31).toBitVec.smod 32).toNat = k.val := by decide +kernel
  exact this ⟨k, hk⟩

section GJ
variable {p : Program} {l : Launch} {e : Env} {R : Room} {s : State} {m : MethodId} {args : Array Value} {below : List Frame} {meth : Method} {c : Code} {cells slots : Nat} {Q : State → Prop}
variable {nL : Nat} {cc : ByteArray} {Ts : List Cond} {own : String} {pc : Nat} {lo : List (Nat × Value)} {st : List Value}
variable {ω : Type} {B : ω → Heap → List Loc → Prop} {w : ω}
theorem gj_eq {pc' : Nat} {lo' : List (Nat × Value)} {st' : List Value} {w' : ω} (h1 : pc = pc') (h2 : lo = lo') (h3 : st = st') (h4 : w = w') (kk : Gj p l e R s m args below meth c nL B cells slots Q pc' lo' st' w') : Gj p l e R s m args below meth c nL B cells slots Q pc lo st w := by subst h1; subst h2; subst h3; subst h4; exact kk
theorem gj_pick {lo' : List (Nat × Value)} (ks : List Nat) (hl : lv_pick lo ks = lo') (kk : Gj p l e R s m args below meth c nL B cells slots Q pc lo' st w) : Gj p l e R s m args below meth c nL B cells slots Q pc lo st w := fun H locs ls hB h => kk H locs ls hB (lv_sub h ks hl)
theorem gj_iconst (cx : CallFix p m c cc nL s args Ts own) {n : Int} {v : Int32} (hdg : decode cc pc = .ok (.iconst n, 1)) (hv : Int32.ofInt n = v) (kk : Gj p l e R s m args below meth c nL B cells slots Q (pc + 1) lo (.int v :: st) w) : Gj p l e R s m args below meth c nL B cells slots Q pc lo (st) w :=
  fun H locs ls hB h => lv_iconst cx.1 cx.2.1 hdg hv (kk H locs ls hB h)
theorem gj_bipush (cx : CallFix p m c cc nL s args Ts own) {n : Int} {v : Int32} (hdg : decode cc pc = .ok (.bipush n, 2)) (hv : (Int8.ofInt n).toInt32 = v) (kk : Gj p l e R s m args below meth c nL B cells slots Q (pc + 2) lo (.int v :: st) w) : Gj p l e R s m args below meth c nL B cells slots Q pc lo (st) w :=
  fun H locs ls hB h => lv_bipush cx.1 cx.2.1 hdg hv (kk H locs ls hB h)
theorem gj_sipush (cx : CallFix p m c cc nL s args Ts own) {n : Int} {v : Int32} (hdg : decode cc pc = .ok (.sipush n, 3)) (hv : (Int16.ofInt n).toInt32 = v) (kk : Gj p l e R s m args below meth c nL B cells slots Q (pc + 3) lo (.int v :: st) w) : Gj p l e R s m args below meth c nL B cells slots Q pc lo (st) w :=
  fun H locs ls hB h => lv_sipush cx.1 cx.2.1 hdg hv (kk H locs ls hB h)
theorem gj_lconst (cx : CallFix p m c cc nL s args Ts own) {n : Fin 2} {v : Int64} (hdg : decode cc pc = .ok (.lconst n, 1)) (hv : Int64.ofNat (n : Nat) = v) (kk : Gj p l e R s m args below meth c nL B cells slots Q (pc + 1) lo (.long v :: st) w) : Gj p l e R s m args below meth c nL B cells slots Q pc lo (st) w :=
  fun H locs ls hB h => lv_lconst cx.1 cx.2.1 hdg hv (kk H locs ls hB h)
theorem gj_ldc2 (cx : CallFix p m c cc nL s args Ts own) {index : Nat} {v : Int64} (hdg : decode cc pc = .ok (.ldc2_w index, 3)) (hw : Cond.constantLong own index v ∈ Ts) (kk : Gj p l e R s m args below meth c nL B cells slots Q (pc + 3) lo (.long v :: st) w) : Gj p l e R s m args below meth c nL B cells slots Q pc lo st w :=
  fun H locs ls hB h => lv_ldc2 cx.1 cx.2.1 cx.2.2.2.1 (cx.2.2.2.2 _ hw) hdg (kk H locs ls hB h)
theorem gj_ldc (cx : CallFix p m c cc nL s args Ts own) {index : Nat} {v : Int32} (hdg : decode cc pc = .ok (.ldc index, 2)) (hw : Cond.constant own index v ∈ Ts) (kk : Gj p l e R s m args below meth c nL B cells slots Q (pc + 2) lo (.int v :: st) w) : Gj p l e R s m args below meth c nL B cells slots Q pc lo st w :=
  fun H locs ls hB h => lv_ldc cx.1 cx.2.1 cx.2.2.2.1 (cx.2.2.2.2 _ hw) hdg (kk H locs ls hB h)
theorem gj_iload_n (cx : CallFix p m c cc nL s args Ts own) {k : Fin 4} {i : Nat} {x : Int32} (hdg : decode cc pc = .ok (.iload_n k, 1)) (hi : (k : Nat) = i) (hl : lo.lookup i = some (.int x)) (kk : Gj p l e R s m args below meth c nL B cells slots Q (pc + 1) lo (.int x :: st) w) : Gj p l e R s m args below meth c nL B cells slots Q pc lo (st) w :=
  fun H locs ls hB h => lv_iload_n cx.1 cx.2.1 hdg hi (h.2.2 (i, .int x) (gj_lk hl)) (kk H locs ls hB h)
theorem gj_iload (cx : CallFix p m c cc nL s args Ts own) {i : Nat} {x : Int32} (hdg : decode cc pc = .ok (.iload i, 2)) (hl : lo.lookup i = some (.int x)) (kk : Gj p l e R s m args below meth c nL B cells slots Q (pc + 2) lo (.int x :: st) w) : Gj p l e R s m args below meth c nL B cells slots Q pc lo (st) w :=
  fun H locs ls hB h => lv_iload cx.1 cx.2.1 hdg (h.2.2 (i, .int x) (gj_lk hl)) (kk H locs ls hB h)
theorem gj_lload_n (cx : CallFix p m c cc nL s args Ts own) {k : Fin 4} {i : Nat} {x : Int64} (hdg : decode cc pc = .ok (.lload_n k, 1)) (hi : (k : Nat) = i) (hl : lo.lookup i = some (.long x)) (kk : Gj p l e R s m args below meth c nL B cells slots Q (pc + 1) lo (.long x :: st) w) : Gj p l e R s m args below meth c nL B cells slots Q pc lo (st) w :=
  fun H locs ls hB h => lv_lload_n cx.1 cx.2.1 hdg hi (h.2.2 (i, .long x) (gj_lk hl)) (kk H locs ls hB h)
theorem gj_lload (cx : CallFix p m c cc nL s args Ts own) {i : Nat} {x : Int64} (hdg : decode cc pc = .ok (.lload i, 2)) (hl : lo.lookup i = some (.long x)) (kk : Gj p l e R s m args below meth c nL B cells slots Q (pc + 2) lo (.long x :: st) w) : Gj p l e R s m args below meth c nL B cells slots Q pc lo (st) w :=
  fun H locs ls hB h => lv_lload cx.1 cx.2.1 hdg (h.2.2 (i, .long x) (gj_lk hl)) (kk H locs ls hB h)
theorem gj_aload_n (cx : CallFix p m c cc nL s args Ts own) {k : Fin 4} {i : Nat} {x : Nat} (hdg : decode cc pc = .ok (.aload_n k, 1)) (hi : (k : Nat) = i) (hl : lo.lookup i = some (.ref x)) (kk : Gj p l e R s m args below meth c nL B cells slots Q (pc + 1) lo (.ref x :: st) w) : Gj p l e R s m args below meth c nL B cells slots Q pc lo (st) w :=
  fun H locs ls hB h => lv_aload_n cx.1 cx.2.1 hdg hi (h.2.2 (i, .ref x) (gj_lk hl)) (kk H locs ls hB h)
theorem gj_aload (cx : CallFix p m c cc nL s args Ts own) {i : Nat} {x : Nat} (hdg : decode cc pc = .ok (.aload i, 2)) (hl : lo.lookup i = some (.ref x)) (kk : Gj p l e R s m args below meth c nL B cells slots Q (pc + 2) lo (.ref x :: st) w) : Gj p l e R s m args below meth c nL B cells slots Q pc lo (st) w :=
  fun H locs ls hB h => lv_aload cx.1 cx.2.1 hdg (h.2.2 (i, .ref x) (gj_lk hl)) (kk H locs ls hB h)
theorem gj_istore_n (cx : CallFix p m c cc nL s args Ts own) {k : Fin 4} {i : Nat} {x : Int32} {lo' : List (Nat × Value)} (hdg : decode cc pc = .ok (.istore_n k, 1)) (hi : (k : Nat) = i) (hn : i < nL) (hl : (i, Value.int x) :: lo.filter (fun q => !(q.1 == i) && !(q.1 + 1 == i && q.2.category == 2)) = lo') (kk : Gj p l e R s m args below meth c nL B cells slots Q (pc + 1) lo' st w) : Gj p l e R s m args below meth c nL B cells slots Q pc lo (Value.int x :: st) w :=
  fun H locs ls hB h => lv_istore_n cx.1 cx.2.1 hdg hi h hn hl (fun ls' h' => kk H locs ls' hB h')
theorem gj_istore (cx : CallFix p m c cc nL s args Ts own) {i : Nat} {x : Int32} {lo' : List (Nat × Value)} (hdg : decode cc pc = .ok (.istore i, 2)) (hn : i < nL) (hl : (i, Value.int x) :: lo.filter (fun q => !(q.1 == i) && !(q.1 + 1 == i && q.2.category == 2)) = lo') (kk : Gj p l e R s m args below meth c nL B cells slots Q (pc + 2) lo' st w) : Gj p l e R s m args below meth c nL B cells slots Q pc lo (Value.int x :: st) w :=
  fun H locs ls hB h => lv_istore cx.1 cx.2.1 hdg h hn hl (fun ls' h' => kk H locs ls' hB h')
theorem gj_lstore_n (cx : CallFix p m c cc nL s args Ts own) {k : Fin 4} {i : Nat} {x : Int64} {lo' : List (Nat × Value)} (hdg : decode cc pc = .ok (.lstore_n k, 1)) (hi : (k : Nat) = i) (hn : i + 1 < nL) (hl : (i, Value.long x) :: lo.filter (fun q => !(q.1 == i) && (!(q.1 == i + 1) && !(q.1 + 1 == i && q.2.category == 2))) = lo') (kk : Gj p l e R s m args below meth c nL B cells slots Q (pc + 1) lo' st w) : Gj p l e R s m args below meth c nL B cells slots Q pc lo (Value.long x :: st) w :=
  fun H locs ls hB h => lv_lstore_n cx.1 cx.2.1 hdg hi h hn hl (fun ls' h' => kk H locs ls' hB h')
theorem gj_lstore (cx : CallFix p m c cc nL s args Ts own) {i : Nat} {x : Int64} {lo' : List (Nat × Value)} (hdg : decode cc pc = .ok (.lstore i, 2)) (hn : i + 1 < nL) (hl : (i, Value.long x) :: lo.filter (fun q => !(q.1 == i) && (!(q.1 == i + 1) && !(q.1 + 1 == i && q.2.category == 2))) = lo') (kk : Gj p l e R s m args below meth c nL B cells slots Q (pc + 2) lo' st w) : Gj p l e R s m args below meth c nL B cells slots Q pc lo (Value.long x :: st) w :=
  fun H locs ls hB h => lv_lstore cx.1 cx.2.1 hdg h hn hl (fun ls' h' => kk H locs ls' hB h')
theorem gj_astore_n (cx : CallFix p m c cc nL s args Ts own) {k : Fin 4} {i : Nat} {x : Nat} {lo' : List (Nat × Value)} (hdg : decode cc pc = .ok (.astore_n k, 1)) (hi : (k : Nat) = i) (hn : i < nL) (hl : (i, Value.ref x) :: lo.filter (fun q => !(q.1 == i) && !(q.1 + 1 == i && q.2.category == 2)) = lo') (kk : Gj p l e R s m args below meth c nL B cells slots Q (pc + 1) lo' st w) : Gj p l e R s m args below meth c nL B cells slots Q pc lo (Value.ref x :: st) w :=
  fun H locs ls hB h => lv_astore_n cx.1 cx.2.1 hdg hi h hn hl (fun ls' h' => kk H locs ls' hB h')
theorem gj_astore (cx : CallFix p m c cc nL s args Ts own) {i : Nat} {x : Nat} {lo' : List (Nat × Value)} (hdg : decode cc pc = .ok (.astore i, 2)) (hn : i < nL) (hl : (i, Value.ref x) :: lo.filter (fun q => !(q.1 == i) && !(q.1 + 1 == i && q.2.category == 2)) = lo') (kk : Gj p l e R s m args below meth c nL B cells slots Q (pc + 2) lo' st w) : Gj p l e R s m args below meth c nL B cells slots Q pc lo (Value.ref x :: st) w :=
  fun H locs ls hB h => lv_astore cx.1 cx.2.1 hdg h hn hl (fun ls' h' => kk H locs ls' hB h')
theorem gj_iinc (cx : CallFix p m c cc nL s args Ts own) {i k : Nat} {n : Int} {x v : Int32} {lo' : List (Nat × Value)} (hdg : decode cc pc = .ok (.iinc i n, 3)) (hk : lo[k]? = some (i, .int x)) (hv : x + Int32.ofInt n = v) (hn : i < nL) (hl : (i, Value.int v) :: lo.filter (fun q => !(q.1 == i) && !(q.1 + 1 == i && q.2.category == 2)) = lo') (kk : Gj p l e R s m args below meth c nL B cells slots Q (pc + 3) lo' st w) : Gj p l e R s m args below meth c nL B cells slots Q pc lo st w :=
  fun H locs ls hB h => lv_iinc cx.1 cx.2.1 hdg h hk hv hn hl (fun ls' h' => kk H locs ls' hB h')
theorem gj_iadd (cx : CallFix p m c cc nL s args Ts own) {x y : Int32} (hdg : decode cc pc = .ok (.iadd, 1))  (kk : Gj p l e R s m args below meth c nL B cells slots Q (pc + 1) lo (.int (x + y) :: st) w) : Gj p l e R s m args below meth c nL B cells slots Q pc lo (.int y :: .int x :: st) w :=
  fun H locs ls hB h => lv_iadd cx.1 cx.2.1 hdg (kk H locs ls hB h)
theorem gj_isub (cx : CallFix p m c cc nL s args Ts own) {x y : Int32} (hdg : decode cc pc = .ok (.isub, 1))  (kk : Gj p l e R s m args below meth c nL B cells slots Q (pc + 1) lo (.int (x - y) :: st) w) : Gj p l e R s m args below meth c nL B cells slots Q pc lo (.int y :: .int x :: st) w :=
  fun H locs ls hB h => lv_isub cx.1 cx.2.1 hdg (kk H locs ls hB h)
theorem gj_imul (cx : CallFix p m c cc nL s args Ts own) {x y : Int32} (hdg : decode cc pc = .ok (.imul, 1))  (kk : Gj p l e R s m args below meth c nL B cells slots Q (pc + 1) lo (.int (x * y) :: st) w) : Gj p l e R s m args below meth c nL B cells slots Q pc lo (.int y :: .int x :: st) w :=
  fun H locs ls hB h => lv_imul cx.1 cx.2.1 hdg (kk H locs ls hB h)
theorem gj_iand (cx : CallFix p m c cc nL s args Ts own) {x y : Int32} (hdg : decode cc pc = .ok (.iand, 1))  (kk : Gj p l e R s m args below meth c nL B cells slots Q (pc + 1) lo (.int (x &&& y) :: st) w) : Gj p l e R s m args below meth c nL B cells slots Q pc lo (.int y :: .int x :: st) w :=
  fun H locs ls hB h => lv_iand cx.1 cx.2.1 hdg (kk H locs ls hB h)
theorem gj_ior (cx : CallFix p m c cc nL s args Ts own) {x y : Int32} (hdg : decode cc pc = .ok (.ior, 1))  (kk : Gj p l e R s m args below meth c nL B cells slots Q (pc + 1) lo (.int (x ||| y) :: st) w) : Gj p l e R s m args below meth c nL B cells slots Q pc lo (.int y :: .int x :: st) w :=
  fun H locs ls hB h => lv_ior cx.1 cx.2.1 hdg (kk H locs ls hB h)
theorem gj_ishl (cx : CallFix p m c cc nL s args Ts own) {x y : Int32} (hdg : decode cc pc = .ok (.ishl, 1))  (kk : Gj p l e R s m args below meth c nL B cells slots Q (pc + 1) lo (.int (x <<< (y &&& 31)) :: st) w) : Gj p l e R s m args below meth c nL B cells slots Q pc lo (.int y :: .int x :: st) w :=
  fun H locs ls hB h => lv_ishl cx.1 cx.2.1 hdg (kk H locs ls hB h)
theorem gj_ishr (cx : CallFix p m c cc nL s args Ts own) {x y : Int32} (hdg : decode cc pc = .ok (.ishr, 1))  (kk : Gj p l e R s m args below meth c nL B cells slots Q (pc + 1) lo (.int (x >>> (y &&& 31)) :: st) w) : Gj p l e R s m args below meth c nL B cells slots Q pc lo (.int y :: .int x :: st) w :=
  fun H locs ls hB h => lv_ishr cx.1 cx.2.1 hdg (kk H locs ls hB h)
theorem gj_ladd (cx : CallFix p m c cc nL s args Ts own) {x y : Int64} (hdg : decode cc pc = .ok (.ladd, 1))  (kk : Gj p l e R s m args below meth c nL B cells slots Q (pc + 1) lo (.long (x + y) :: st) w) : Gj p l e R s m args below meth c nL B cells slots Q pc lo (.long y :: .long x :: st) w :=
  fun H locs ls hB h => lv_ladd cx.1 cx.2.1 hdg (kk H locs ls hB h)
theorem gj_lsub (cx : CallFix p m c cc nL s args Ts own) {x y : Int64} (hdg : decode cc pc = .ok (.lsub, 1))  (kk : Gj p l e R s m args below meth c nL B cells slots Q (pc + 1) lo (.long (x - y) :: st) w) : Gj p l e R s m args below meth c nL B cells slots Q pc lo (.long y :: .long x :: st) w :=
  fun H locs ls hB h => lv_lsub cx.1 cx.2.1 hdg (kk H locs ls hB h)
theorem gj_lmul (cx : CallFix p m c cc nL s args Ts own) {x y : Int64} (hdg : decode cc pc = .ok (.lmul, 1))  (kk : Gj p l e R s m args below meth c nL B cells slots Q (pc + 1) lo (.long (x * y) :: st) w) : Gj p l e R s m args below meth c nL B cells slots Q pc lo (.long y :: .long x :: st) w :=
  fun H locs ls hB h => lv_lmul cx.1 cx.2.1 hdg (kk H locs ls hB h)
theorem gj_land (cx : CallFix p m c cc nL s args Ts own) {x y : Int64} (hdg : decode cc pc = .ok (.land, 1))  (kk : Gj p l e R s m args below meth c nL B cells slots Q (pc + 1) lo (.long (x &&& y) :: st) w) : Gj p l e R s m args below meth c nL B cells slots Q pc lo (.long y :: .long x :: st) w :=
  fun H locs ls hB h => lv_land cx.1 cx.2.1 hdg (kk H locs ls hB h)
theorem gj_lor (cx : CallFix p m c cc nL s args Ts own) {x y : Int64} (hdg : decode cc pc = .ok (.lor, 1))  (kk : Gj p l e R s m args below meth c nL B cells slots Q (pc + 1) lo (.long (x ||| y) :: st) w) : Gj p l e R s m args below meth c nL B cells slots Q pc lo (.long y :: .long x :: st) w :=
  fun H locs ls hB h => lv_lor cx.1 cx.2.1 hdg (kk H locs ls hB h)
theorem gj_lshl (cx : CallFix p m c cc nL s args Ts own) {x v : Int64} {y : Int32} (hdg : decode cc pc = .ok (.lshl, 1)) (hv : x <<< (y.toInt64 &&& 63) = v) (kk : Gj p l e R s m args below meth c nL B cells slots Q (pc + 1) lo (.long v :: st) w) : Gj p l e R s m args below meth c nL B cells slots Q pc lo (.int y :: .long x :: st) w :=
  fun H locs ls hB h => lv_lshl cx.1 cx.2.1 hdg hv (kk H locs ls hB h)
theorem gj_lshr (cx : CallFix p m c cc nL s args Ts own) {x v : Int64} {y : Int32} (hdg : decode cc pc = .ok (.lshr, 1)) (hv : x >>> (y.toInt64 &&& 63) = v) (kk : Gj p l e R s m args below meth c nL B cells slots Q (pc + 1) lo (.long v :: st) w) : Gj p l e R s m args below meth c nL B cells slots Q pc lo (.int y :: .long x :: st) w :=
  fun H locs ls hB h => lv_lshr cx.1 cx.2.1 hdg hv (kk H locs ls hB h)
theorem gj_iushr (cx : CallFix p m c cc nL s args Ts own) {x y v : Int32} (hdg : decode cc pc = .ok (.iushr, 1)) (hv : (x.toUInt32 >>> (y.toUInt32 &&& Int32.toUInt32 31)).toInt32 = v) (kk : Gj p l e R s m args below meth c nL B cells slots Q (pc + 1) lo (.int v :: st) w) : Gj p l e R s m args below meth c nL B cells slots Q pc lo (.int y :: .int x :: st) w :=
  fun H locs ls hB h => lv_iushr cx.1 cx.2.1 hdg hv (kk H locs ls hB h)
theorem gj_ldcw (cx : CallFix p m c cc nL s args Ts own) {index : Nat} {v : Int32} (hdg : decode cc pc = .ok (.ldc_w index, 3)) (hw : Cond.constant own index v ∈ Ts) (kk : Gj p l e R s m args below meth c nL B cells slots Q (pc + 3) lo (.int v :: st) w) : Gj p l e R s m args below meth c nL B cells slots Q pc lo st w :=
  fun H locs ls hB h => lv_ldcw cx.1 cx.2.1 cx.2.2.2.1 (cx.2.2.2.2 _ hw) hdg (kk H locs ls hB h)
theorem gj_i2l (cx : CallFix p m c cc nL s args Ts own) {x : Int32} {v : Int64} (hdg : decode cc pc = .ok (.i2l, 1)) (hv : x.toInt64 = v) (kk : Gj p l e R s m args below meth c nL B cells slots Q (pc + 1) lo (.long v :: st) w) : Gj p l e R s m args below meth c nL B cells slots Q pc lo (.int x :: st) w :=
  fun H locs ls hB h => lv_i2l cx.1 cx.2.1 hdg hv (kk H locs ls hB h)
theorem gj_l2i (cx : CallFix p m c cc nL s args Ts own) {x : Int64} {v : Int32} (hdg : decode cc pc = .ok (.l2i, 1)) (hv : x.toInt32 = v) (kk : Gj p l e R s m args below meth c nL B cells slots Q (pc + 1) lo (.int v :: st) w) : Gj p l e R s m args below meth c nL B cells slots Q pc lo (.long x :: st) w :=
  fun H locs ls hB h => lv_l2i cx.1 cx.2.1 hdg hv (kk H locs ls hB h)
theorem gj_idiv (cx : CallFix p m c cc nL s args Ts own) {x y : Int32} (hdg : decode cc pc = .ok (.idiv, 1)) (hne : ¬ y = 0) (kk : Gj p l e R s m args below meth c nL B cells slots Q (pc + 1) lo (.int (x / y) :: st) w) : Gj p l e R s m args below meth c nL B cells slots Q pc lo (.int y :: .int x :: st) w :=
  fun H locs ls hB h => lv_idiv cx.1 cx.2.1 hdg hne (kk H locs ls hB h)
theorem gj_irem (cx : CallFix p m c cc nL s args Ts own) {x y : Int32} (hdg : decode cc pc = .ok (.irem, 1)) (hne : ¬ y = 0) (kk : Gj p l e R s m args below meth c nL B cells slots Q (pc + 1) lo (.int (x - x / y * y) :: st) w) : Gj p l e R s m args below meth c nL B cells slots Q pc lo (.int y :: .int x :: st) w :=
  fun H locs ls hB h => lv_irem cx.1 cx.2.1 hdg hne (kk H locs ls hB h)
theorem gj_toi {x y : Int32} (h : x = y) (kk : Gj p l e R s m args below meth c nL B cells slots Q pc lo (.int y :: st) w) : Gj p l e R s m args below meth c nL B cells slots Q pc lo (.int x :: st) w := h ▸ kk
theorem gj_tol {x y : Int64} (h : x = y) (kk : Gj p l e R s m args below meth c nL B cells slots Q pc lo (.long y :: st) w) : Gj p l e R s m args below meth c nL B cells slots Q pc lo (.long x :: st) w := h ▸ kk
theorem gj_topi {x : Int32} (kk : ∀ y : Int32, y = x → Gj p l e R s m args below meth c nL B cells slots Q pc lo (.int y :: st) w) : Gj p l e R s m args below meth c nL B cells slots Q pc lo (.int x :: st) w := kk x rfl
theorem gj_topl {x : Int64} (kk : ∀ y : Int64, y = x → Gj p l e R s m args below meth c nL B cells slots Q pc lo (.long y :: st) w) : Gj p l e R s m args below meth c nL B cells slots Q pc lo (.long x :: st) w := kk x rfl
theorem gj_iaddN (cx : CallFix p m c cc nL s args Ts own) {a d : Nat} (hdg : decode cc pc = .ok (.iadd, 1))  (kk : Gj p l e R s m args below meth c nL B cells slots Q (pc + 1) lo (.int (nI (a + d)) :: st) w) : Gj p l e R s m args below meth c nL B cells slots Q pc lo (.int (nI d) :: .int (nI a) :: st) w :=
  gj_iadd cx hdg (gj_toi (nI_add a d) kk)
theorem gj_imulN (cx : CallFix p m c cc nL s args Ts own) {a d : Nat} (hdg : decode cc pc = .ok (.imul, 1))  (kk : Gj p l e R s m args below meth c nL B cells slots Q (pc + 1) lo (.int (nI (a * d)) :: st) w) : Gj p l e R s m args below meth c nL B cells slots Q pc lo (.int (nI d) :: .int (nI a) :: st) w :=
  gj_imul cx hdg (gj_toi (pk_mul a d) kk)
theorem gj_isubN (cx : CallFix p m c cc nL s args Ts own) {a d : Nat} (hdg : decode cc pc = .ok (.isub, 1)) (hle : d ≤ a) (kk : Gj p l e R s m args below meth c nL B cells slots Q (pc + 1) lo (.int (nI (a - d)) :: st) w) : Gj p l e R s m args below meth c nL B cells slots Q pc lo (.int (nI d) :: .int (nI a) :: st) w :=
  gj_isub cx hdg (gj_toi (pk_sub hle) kk)
theorem gj_idivN (cx : CallFix p m c cc nL s args Ts own) {a d : Nat} (hdg : decode cc pc = .ok (.idiv, 1)) (ha : a < 2 ^ 31) (h0 : 0 < d) (hd : d < 2 ^ 31) (kk : Gj p l e R s m args below meth c nL B cells slots Q (pc + 1) lo (.int (nI (a / d)) :: st) w) : Gj p l e R s m args below meth c nL B cells slots Q pc lo (.int (nI d) :: .int (nI a) :: st) w :=
  gj_idiv cx hdg (nI_ne0 h0 hd) (gj_toi (pk_div ha h0 hd) kk)
theorem gj_iremN (cx : CallFix p m c cc nL s args Ts own) {a d : Nat} (hdg : decode cc pc = .ok (.irem, 1)) (ha : a < 2 ^ 31) (h0 : 0 < d) (hd : d < 2 ^ 31) (kk : Gj p l e R s m args below meth c nL B cells slots Q (pc + 1) lo (.int (nI (a % d)) :: st) w) : Gj p l e R s m args below meth c nL B cells slots Q pc lo (.int (nI d) :: .int (nI a) :: st) w :=
  gj_irem cx hdg (nI_ne0 h0 hd) (gj_toi (pk_rem ha h0 hd) kk)
theorem gj_ishlN (cx : CallFix p m c cc nL s args Ts own) {a d : Nat} (hdg : decode cc pc = .ok (.ishl, 1)) (hd : d < 32) (h : a * 2 ^ d < 2 ^ 32) (kk : Gj p l e R s m args below meth c nL B cells slots Q (pc + 1) lo (.int (nI (a * 2 ^ d)) :: st) w) : Gj p l e R s m args below meth c nL B cells slots Q pc lo (.int (nI d) :: .int (nI a) :: st) w :=
  gj_ishl cx hdg (gj_toi (gj_shlN hd h) kk)
theorem gj_ishrN (cx : CallFix p m c cc nL s args Ts own) {a d : Nat} (hdg : decode cc pc = .ok (.ishr, 1)) (hd : d < 32) (h : a < 2 ^ 31) (kk : Gj p l e R s m args below meth c nL B cells slots Q (pc + 1) lo (.int (nI (a / 2 ^ d)) :: st) w) : Gj p l e R s m args below meth c nL B cells slots Q pc lo (.int (nI d) :: .int (nI a) :: st) w :=
  gj_ishr cx hdg (gj_toi (gj_shrN hd h) kk)
theorem gj_iincN (cx : CallFix p m c cc nL s args Ts own) {i k a d : Nat} {n : Int} {lo' : List (Nat × Value)} (hdg : decode cc pc = .ok (.iinc i n, 3)) (hk : lo[k]? = some (i, .int (nI a))) (hv : Int32.ofInt n = nI d) (hn : i < nL) (hl : (i, Value.int (nI (a + d))) :: lo.filter (fun q => !(q.1 == i) && !(q.1 + 1 == i && q.2.category == 2)) = lo') (kk : Gj p l e R s m args below meth c nL B cells slots Q (pc + 3) lo' st w) : Gj p l e R s m args below meth c nL B cells slots Q pc lo st w :=
  gj_iinc cx hdg hk (by rw [hv]; exact nI_add a d) hn hl kk
theorem gj_dup (cx : CallFix p m c cc nL s args Ts own) {va : Value} (hdg : decode cc pc = .ok (.dup, 1)) (hva : va.category = 1) (kk : Gj p l e R s m args below meth c nL B cells slots Q (pc + 1) lo (va :: va :: st) w) : Gj p l e R s m args below meth c nL B cells slots Q pc lo (va :: st) w :=
  fun H locs ls hB h => lv_dup cx.1 cx.2.1 hdg hva (kk H locs ls hB h)
theorem gj_pop (cx : CallFix p m c cc nL s args Ts own) {va : Value} (hdg : decode cc pc = .ok (.pop, 1)) (hva : va.category = 1) (kk : Gj p l e R s m args below meth c nL B cells slots Q (pc + 1) lo (st) w) : Gj p l e R s m args below meth c nL B cells slots Q pc lo (va :: st) w :=
  fun H locs ls hB h => lv_pop cx.1 cx.2.1 hdg hva (kk H locs ls hB h)
theorem gj_dup_x1 (cx : CallFix p m c cc nL s args Ts own) {va vb : Value} (hdg : decode cc pc = .ok (.dup_x1, 1)) (hva : va.category = 1) (hvb : vb.category = 1) (kk : Gj p l e R s m args below meth c nL B cells slots Q (pc + 1) lo (va :: vb :: va :: st) w) : Gj p l e R s m args below meth c nL B cells slots Q pc lo (va :: vb :: st) w :=
  fun H locs ls hB h => lv_dup_x1 cx.1 cx.2.1 hdg hva hvb (kk H locs ls hB h)
theorem gj_dup2_11 (cx : CallFix p m c cc nL s args Ts own) {va vb : Value} (hdg : decode cc pc = .ok (.dup2, 1)) (hva : va.category = 1) (hvb : vb.category = 1) (kk : Gj p l e R s m args below meth c nL B cells slots Q (pc + 1) lo (va :: vb :: va :: vb :: st) w) : Gj p l e R s m args below meth c nL B cells slots Q pc lo (va :: vb :: st) w :=
  fun H locs ls hB h => lv_dup2_11 cx.1 cx.2.1 hdg hva hvb (kk H locs ls hB h)
theorem gj_dup2_2 (cx : CallFix p m c cc nL s args Ts own) {va : Value} (hdg : decode cc pc = .ok (.dup2, 1)) (hva : va.category = 2) (kk : Gj p l e R s m args below meth c nL B cells slots Q (pc + 1) lo (va :: va :: st) w) : Gj p l e R s m args below meth c nL B cells slots Q pc lo (va :: st) w :=
  fun H locs ls hB h => lv_dup2_2 cx.1 cx.2.1 hdg hva (kk H locs ls hB h)
theorem gj_goto (cx : CallFix p m c cc nL s args Ts own) {off : Int} {tgt : Nat} (hdg : decode cc pc = .ok (.goto off, 3)) (ht : (pc : Int) + off = (tgt : Int)) (kk : Gj p l e R s m args below meth c nL B cells slots Q tgt lo st w) : Gj p l e R s m args below meth c nL B cells slots Q pc lo st w :=
  fun H locs ls hB h => lv_goto cx.1 cx.2.1 hdg ht (kk H locs ls hB h)
theorem gj_if_eq (cx : CallFix p m c cc nL s args Ts own) {x : Int32} {off : Int} {tgt : Nat} (hdg : decode cc pc = .ok (.ifCond .eq off, 3)) (ht : (pc : Int) + off = (tgt : Int)) (kt : x = 0 → Gj p l e R s m args below meth c nL B cells slots Q tgt lo st w) (kf : ¬ x = 0 → Gj p l e R s m args below meth c nL B cells slots Q (pc + 3) lo st w) : Gj p l e R s m args below meth c nL B cells slots Q pc lo (.int x :: st) w :=
  fun H locs ls hB h => lv_if_eq cx.1 cx.2.1 hdg ht (fun q => kt q H locs ls hB h) (fun q => kf q H locs ls hB h)
theorem gj_icmp_eq (cx : CallFix p m c cc nL s args Ts own) {x y : Int32} {off : Int} {tgt : Nat} (hdg : decode cc pc = .ok (.if_icmp .eq off, 3)) (ht : (pc : Int) + off = (tgt : Int)) (kt : x = y → Gj p l e R s m args below meth c nL B cells slots Q tgt lo st w) (kf : ¬ x = y → Gj p l e R s m args below meth c nL B cells slots Q (pc + 3) lo st w) : Gj p l e R s m args below meth c nL B cells slots Q pc lo (.int y :: .int x :: st) w :=
  fun H locs ls hB h => lv_icmp_eq cx.1 cx.2.1 hdg ht (fun q => kt q H locs ls hB h) (fun q => kf q H locs ls hB h)
theorem gj_icmp_eqN (cx : CallFix p m c cc nL s args Ts own) {a d : Nat} {off : Int} {tgt : Nat} (hdg : decode cc pc = .ok (.if_icmp .eq off, 3)) (ht : (pc : Int) + off = (tgt : Int)) (ha : a < 2 ^ 31) (hd : d < 2 ^ 31) (kt : a = d → Gj p l e R s m args below meth c nL B cells slots Q tgt lo st w) (kf : a ≠ d → Gj p l e R s m args below meth c nL B cells slots Q (pc + 3) lo st w) : Gj p l e R s m args below meth c nL B cells slots Q pc lo (.int (nI d) :: .int (nI a) :: st) w :=
  gj_icmp_eq cx hdg ht (fun q => kt ((nI_eq ha hd).mp q)) (fun q => kf (fun z => q ((nI_eq ha hd).mpr z)))
theorem gj_z31 : 0 < 2 ^ 31 := by decide
theorem gj_if_eqN (cx : CallFix p m c cc nL s args Ts own) {a : Nat} {off : Int} {tgt : Nat} (hdg : decode cc pc = .ok (.ifCond .eq off, 3)) (ht : (pc : Int) + off = (tgt : Int)) (ha : a < 2 ^ 31) (kt : a = 0 → Gj p l e R s m args below meth c nL B cells slots Q tgt lo st w) (kf : a ≠ 0 → Gj p l e R s m args below meth c nL B cells slots Q (pc + 3) lo st w) : Gj p l e R s m args below meth c nL B cells slots Q pc lo (.int (nI a) :: st) w :=
  gj_if_eq cx hdg ht (fun q => kt ((nI_eq ha gj_z31).mp q)) (fun q => kf (fun z => q (by rw [z]; rfl)))
theorem gj_lcmp_eq (cx : CallFix p m c cc nL s args Ts own) {x y : Int64} {off : Int} {tgt : Nat} (hdg : decode cc pc = .ok (.lcmp, 1)) (hdg2 : decode cc (pc + 1) = .ok (.ifCond .eq off, 3)) (ht : ((pc + 1 : Nat) : Int) + off = (tgt : Int)) (kt : x = y → Gj p l e R s m args below meth c nL B cells slots Q tgt lo st w) (kf : ¬ x = y → Gj p l e R s m args below meth c nL B cells slots Q (pc + 4) lo st w) : Gj p l e R s m args below meth c nL B cells slots Q pc lo (.long y :: .long x :: st) w :=
  fun H locs ls hB h => W.lcmp cx.1 cx.2.1 hdg ((gj_if_eq cx hdg2 ht (fun q => kt ((lg_cmp_eq x y).mp q)) (fun q => kf (fun z => q ((lg_cmp_eq x y).mpr z))) : Gj p l e R s m args below meth c nL B cells slots Q (pc + 1) lo (.int (lg_cmp x y) :: st) w) H locs ls hB h)
theorem gj_if_ne (cx : CallFix p m c cc nL s args Ts own) {x : Int32} {off : Int} {tgt : Nat} (hdg : decode cc pc = .ok (.ifCond .ne off, 3)) (ht : (pc : Int) + off = (tgt : Int)) (kt : ¬ x = 0 → Gj p l e R s m args below meth c nL B cells slots Q tgt lo st w) (kf : x = 0 → Gj p l e R s m args below meth c nL B cells slots Q (pc + 3) lo st w) : Gj p l e R s m args below meth c nL B cells slots Q pc lo (.int x :: st) w :=
  fun H locs ls hB h => lv_if_ne cx.1 cx.2.1 hdg ht (fun q => kt q H locs ls hB h) (fun q => kf q H locs ls hB h)
theorem gj_icmp_ne (cx : CallFix p m c cc nL s args Ts own) {x y : Int32} {off : Int} {tgt : Nat} (hdg : decode cc pc = .ok (.if_icmp .ne off, 3)) (ht : (pc : Int) + off = (tgt : Int)) (kt : ¬ x = y → Gj p l e R s m args below meth c nL B cells slots Q tgt lo st w) (kf : x = y → Gj p l e R s m args below meth c nL B cells slots Q (pc + 3) lo st w) : Gj p l e R s m args below meth c nL B cells slots Q pc lo (.int y :: .int x :: st) w :=
  fun H locs ls hB h => lv_icmp_ne cx.1 cx.2.1 hdg ht (fun q => kt q H locs ls hB h) (fun q => kf q H locs ls hB h)
theorem gj_icmp_neN (cx : CallFix p m c cc nL s args Ts own) {a d : Nat} {off : Int} {tgt : Nat} (hdg : decode cc pc = .ok (.if_icmp .ne off, 3)) (ht : (pc : Int) + off = (tgt : Int)) (ha : a < 2 ^ 31) (hd : d < 2 ^ 31) (kt : a ≠ d → Gj p l e R s m args below meth c nL B cells slots Q tgt lo st w) (kf : a = d → Gj p l e R s m args below meth c nL B cells slots Q (pc + 3) lo st w) : Gj p l e R s m args below meth c nL B cells slots Q pc lo (.int (nI d) :: .int (nI a) :: st) w :=
  gj_icmp_ne cx hdg ht (fun q => kt (fun z => q ((nI_eq ha hd).mpr z))) (fun q => kf ((nI_eq ha hd).mp q))
theorem gj_if_neN (cx : CallFix p m c cc nL s args Ts own) {a : Nat} {off : Int} {tgt : Nat} (hdg : decode cc pc = .ok (.ifCond .ne off, 3)) (ht : (pc : Int) + off = (tgt : Int)) (ha : a < 2 ^ 31) (kt : a ≠ 0 → Gj p l e R s m args below meth c nL B cells slots Q tgt lo st w) (kf : a = 0 → Gj p l e R s m args below meth c nL B cells slots Q (pc + 3) lo st w) : Gj p l e R s m args below meth c nL B cells slots Q pc lo (.int (nI a) :: st) w :=
  gj_if_ne cx hdg ht (fun q => kt (fun z => q (by rw [z]; rfl))) (fun q => kf ((nI_eq ha gj_z31).mp q))
theorem gj_lcmp_ne (cx : CallFix p m c cc nL s args Ts own) {x y : Int64} {off : Int} {tgt : Nat} (hdg : decode cc pc = .ok (.lcmp, 1)) (hdg2 : decode cc (pc + 1) = .ok (.ifCond .ne off, 3)) (ht : ((pc + 1 : Nat) : Int) + off = (tgt : Int)) (kt : ¬ x = y → Gj p l e R s m args below meth c nL B cells slots Q tgt lo st w) (kf : x = y → Gj p l e R s m args below meth c nL B cells slots Q (pc + 4) lo st w) : Gj p l e R s m args below meth c nL B cells slots Q pc lo (.long y :: .long x :: st) w :=
  fun H locs ls hB h => W.lcmp cx.1 cx.2.1 hdg ((gj_if_ne cx hdg2 ht (fun q => kt (fun z => q ((lg_cmp_eq x y).mpr z))) (fun q => kf ((lg_cmp_eq x y).mp q)) : Gj p l e R s m args below meth c nL B cells slots Q (pc + 1) lo (.int (lg_cmp x y) :: st) w) H locs ls hB h)
theorem gj_if_lt (cx : CallFix p m c cc nL s args Ts own) {x : Int32} {off : Int} {tgt : Nat} (hdg : decode cc pc = .ok (.ifCond .lt off, 3)) (ht : (pc : Int) + off = (tgt : Int)) (kt : x < 0 → Gj p l e R s m args below meth c nL B cells slots Q tgt lo st w) (kf : ¬ x < 0 → Gj p l e R s m args below meth c nL B cells slots Q (pc + 3) lo st w) : Gj p l e R s m args below meth c nL B cells slots Q pc lo (.int x :: st) w :=
  fun H locs ls hB h => lv_if_lt cx.1 cx.2.1 hdg ht (fun q => kt q H locs ls hB h) (fun q => kf q H locs ls hB h)
theorem gj_icmp_lt (cx : CallFix p m c cc nL s args Ts own) {x y : Int32} {off : Int} {tgt : Nat} (hdg : decode cc pc = .ok (.if_icmp .lt off, 3)) (ht : (pc : Int) + off = (tgt : Int)) (kt : x < y → Gj p l e R s m args below meth c nL B cells slots Q tgt lo st w) (kf : ¬ x < y → Gj p l e R s m args below meth c nL B cells slots Q (pc + 3) lo st w) : Gj p l e R s m args below meth c nL B cells slots Q pc lo (.int y :: .int x :: st) w :=
  fun H locs ls hB h => lv_icmp_lt cx.1 cx.2.1 hdg ht (fun q => kt q H locs ls hB h) (fun q => kf q H locs ls hB h)
theorem gj_icmp_ltN (cx : CallFix p m c cc nL s args Ts own) {a d : Nat} {off : Int} {tgt : Nat} (hdg : decode cc pc = .ok (.if_icmp .lt off, 3)) (ht : (pc : Int) + off = (tgt : Int)) (ha : a < 2 ^ 31) (hd : d < 2 ^ 31) (kt : a < d → Gj p l e R s m args below meth c nL B cells slots Q tgt lo st w) (kf : d ≤ a → Gj p l e R s m args below meth c nL B cells slots Q (pc + 3) lo st w) : Gj p l e R s m args below meth c nL B cells slots Q pc lo (.int (nI d) :: .int (nI a) :: st) w :=
  gj_icmp_lt cx hdg ht (fun q => kt ((nI_ltI ha hd).mp q)) (fun q => kf (by have := mt (nI_ltI ha hd).mpr q; omega))
theorem gj_if_ltN (cx : CallFix p m c cc nL s args Ts own) {a : Nat} {off : Int} {tgt : Nat} (hdg : decode cc pc = .ok (.ifCond .lt off, 3)) (ht : (pc : Int) + off = (tgt : Int)) (ha : a < 2 ^ 31) (kt : a < 0 → Gj p l e R s m args below meth c nL B cells slots Q tgt lo st w) (kf : 0 ≤ a → Gj p l e R s m args below meth c nL B cells slots Q (pc + 3) lo st w) : Gj p l e R s m args below meth c nL B cells slots Q pc lo (.int (nI a) :: st) w :=
  gj_if_lt cx hdg ht (fun q => kt ((nI_ltI ha gj_z31).mp q)) (fun q => kf (by have := mt (nI_ltI ha gj_z31).mpr q; omega))
theorem gj_lcmp_lt (cx : CallFix p m c cc nL s args Ts own) {x y : Int64} {off : Int} {tgt : Nat} (hdg : decode cc pc = .ok (.lcmp, 1)) (hdg2 : decode cc (pc + 1) = .ok (.ifCond .lt off, 3)) (ht : ((pc + 1 : Nat) : Int) + off = (tgt : Int)) (kt : x < y → Gj p l e R s m args below meth c nL B cells slots Q tgt lo st w) (kf : ¬ x < y → Gj p l e R s m args below meth c nL B cells slots Q (pc + 4) lo st w) : Gj p l e R s m args below meth c nL B cells slots Q pc lo (.long y :: .long x :: st) w :=
  fun H locs ls hB h => W.lcmp cx.1 cx.2.1 hdg ((gj_if_lt cx hdg2 ht (fun q => kt ((lg_cmp_lt x y).mp q)) (fun q => kf (fun z => q ((lg_cmp_lt x y).mpr z))) : Gj p l e R s m args below meth c nL B cells slots Q (pc + 1) lo (.int (lg_cmp x y) :: st) w) H locs ls hB h)
theorem gj_if_ge (cx : CallFix p m c cc nL s args Ts own) {x : Int32} {off : Int} {tgt : Nat} (hdg : decode cc pc = .ok (.ifCond .ge off, 3)) (ht : (pc : Int) + off = (tgt : Int)) (kt : 0 ≤ x → Gj p l e R s m args below meth c nL B cells slots Q tgt lo st w) (kf : ¬ 0 ≤ x → Gj p l e R s m args below meth c nL B cells slots Q (pc + 3) lo st w) : Gj p l e R s m args below meth c nL B cells slots Q pc lo (.int x :: st) w :=
  fun H locs ls hB h => lv_if_ge cx.1 cx.2.1 hdg ht (fun q => kt q H locs ls hB h) (fun q => kf q H locs ls hB h)
theorem gj_icmp_ge (cx : CallFix p m c cc nL s args Ts own) {x y : Int32} {off : Int} {tgt : Nat} (hdg : decode cc pc = .ok (.if_icmp .ge off, 3)) (ht : (pc : Int) + off = (tgt : Int)) (kt : y ≤ x → Gj p l e R s m args below meth c nL B cells slots Q tgt lo st w) (kf : ¬ y ≤ x → Gj p l e R s m args below meth c nL B cells slots Q (pc + 3) lo st w) : Gj p l e R s m args below meth c nL B cells slots Q pc lo (.int y :: .int x :: st) w :=
  fun H locs ls hB h => lv_icmp_ge cx.1 cx.2.1 hdg ht (fun q => kt q H locs ls hB h) (fun q => kf q H locs ls hB h)
theorem gj_icmp_geN (cx : CallFix p m c cc nL s args Ts own) {a d : Nat} {off : Int} {tgt : Nat} (hdg : decode cc pc = .ok (.if_icmp .ge off, 3)) (ht : (pc : Int) + off = (tgt : Int)) (ha : a < 2 ^ 31) (hd : d < 2 ^ 31) (kt : d ≤ a → Gj p l e R s m args below meth c nL B cells slots Q tgt lo st w) (kf : a < d → Gj p l e R s m args below meth c nL B cells slots Q (pc + 3) lo st w) : Gj p l e R s m args below meth c nL B cells slots Q pc lo (.int (nI d) :: .int (nI a) :: st) w :=
  gj_icmp_ge cx hdg ht (fun q => kt ((nI_leI hd ha).mp q)) (fun q => kf (by have := mt (nI_leI hd ha).mpr q; omega))
theorem gj_if_geN (cx : CallFix p m c cc nL s args Ts own) {a : Nat} {off : Int} {tgt : Nat} (hdg : decode cc pc = .ok (.ifCond .ge off, 3)) (ht : (pc : Int) + off = (tgt : Int)) (ha : a < 2 ^ 31) (kt : 0 ≤ a → Gj p l e R s m args below meth c nL B cells slots Q tgt lo st w) (kf : a < 0 → Gj p l e R s m args below meth c nL B cells slots Q (pc + 3) lo st w) : Gj p l e R s m args below meth c nL B cells slots Q pc lo (.int (nI a) :: st) w :=
  gj_if_ge cx hdg ht (fun q => kt ((nI_leI gj_z31 ha).mp q)) (fun q => kf (by have := mt (nI_leI gj_z31 ha).mpr q; omega))
theorem gj_lcmp_ge (cx : CallFix p m c cc nL s args Ts own) {x y : Int64} {off : Int} {tgt : Nat} (hdg : decode cc pc = .ok (.lcmp, 1)) (hdg2 : decode cc (pc + 1) = .ok (.ifCond .ge off, 3)) (ht : ((pc + 1 : Nat) : Int) + off = (tgt : Int)) (kt : y ≤ x → Gj p l e R s m args below meth c nL B cells slots Q tgt lo st w) (kf : ¬ y ≤ x → Gj p l e R s m args below meth c nL B cells slots Q (pc + 4) lo st w) : Gj p l e R s m args below meth c nL B cells slots Q pc lo (.long y :: .long x :: st) w :=
  fun H locs ls hB h => W.lcmp cx.1 cx.2.1 hdg ((gj_if_ge cx hdg2 ht (fun q => kt ((lg_cmp_ge x y).mp q)) (fun q => kf (fun z => q ((lg_cmp_ge x y).mpr z))) : Gj p l e R s m args below meth c nL B cells slots Q (pc + 1) lo (.int (lg_cmp x y) :: st) w) H locs ls hB h)
theorem gj_if_gt (cx : CallFix p m c cc nL s args Ts own) {x : Int32} {off : Int} {tgt : Nat} (hdg : decode cc pc = .ok (.ifCond .gt off, 3)) (ht : (pc : Int) + off = (tgt : Int)) (kt : 0 < x → Gj p l e R s m args below meth c nL B cells slots Q tgt lo st w) (kf : ¬ 0 < x → Gj p l e R s m args below meth c nL B cells slots Q (pc + 3) lo st w) : Gj p l e R s m args below meth c nL B cells slots Q pc lo (.int x :: st) w :=
  fun H locs ls hB h => lv_if_gt cx.1 cx.2.1 hdg ht (fun q => kt q H locs ls hB h) (fun q => kf q H locs ls hB h)
theorem gj_icmp_gt (cx : CallFix p m c cc nL s args Ts own) {x y : Int32} {off : Int} {tgt : Nat} (hdg : decode cc pc = .ok (.if_icmp .gt off, 3)) (ht : (pc : Int) + off = (tgt : Int)) (kt : y < x → Gj p l e R s m args below meth c nL B cells slots Q tgt lo st w) (kf : ¬ y < x → Gj p l e R s m args below meth c nL B cells slots Q (pc + 3) lo st w) : Gj p l e R s m args below meth c nL B cells slots Q pc lo (.int y :: .int x :: st) w :=
  fun H locs ls hB h => lv_icmp_gt cx.1 cx.2.1 hdg ht (fun q => kt q H locs ls hB h) (fun q => kf q H locs ls hB h)
theorem gj_icmp_gtN (cx : CallFix p m c cc nL s args Ts own) {a d : Nat} {off : Int} {tgt : Nat} (hdg : decode cc pc = .ok (.if_icmp .gt off, 3)) (ht : (pc : Int) + off = (tgt : Int)) (ha : a < 2 ^ 31) (hd : d < 2 ^ 31) (kt : d < a → Gj p l e R s m args below meth c nL B cells slots Q tgt lo st w) (kf : a ≤ d → Gj p l e R s m args below meth c nL B cells slots Q (pc + 3) lo st w) : Gj p l e R s m args below meth c nL B cells slots Q pc lo (.int (nI d) :: .int (nI a) :: st) w :=
  gj_icmp_gt cx hdg ht (fun q => kt ((nI_ltI hd ha).mp q)) (fun q => kf (by have := mt (nI_ltI hd ha).mpr q; omega))
theorem gj_if_gtN (cx : CallFix p m c cc nL s args Ts own) {a : Nat} {off : Int} {tgt : Nat} (hdg : decode cc pc = .ok (.ifCond .gt off, 3)) (ht : (pc : Int) + off = (tgt : Int)) (ha : a < 2 ^ 31) (kt : 0 < a → Gj p l e R s m args below meth c nL B cells slots Q tgt lo st w) (kf : a ≤ 0 → Gj p l e R s m args below meth c nL B cells slots Q (pc + 3) lo st w) : Gj p l e R s m args below meth c nL B cells slots Q pc lo (.int (nI a) :: st) w :=
  gj_if_gt cx hdg ht (fun q => kt ((nI_ltI gj_z31 ha).mp q)) (fun q => kf (by have := mt (nI_ltI gj_z31 ha).mpr q; omega))
theorem gj_lcmp_gt (cx : CallFix p m c cc nL s args Ts own) {x y : Int64} {off : Int} {tgt : Nat} (hdg : decode cc pc = .ok (.lcmp, 1)) (hdg2 : decode cc (pc + 1) = .ok (.ifCond .gt off, 3)) (ht : ((pc + 1 : Nat) : Int) + off = (tgt : Int)) (kt : y < x → Gj p l e R s m args below meth c nL B cells slots Q tgt lo st w) (kf : ¬ y < x → Gj p l e R s m args below meth c nL B cells slots Q (pc + 4) lo st w) : Gj p l e R s m args below meth c nL B cells slots Q pc lo (.long y :: .long x :: st) w :=
  fun H locs ls hB h => W.lcmp cx.1 cx.2.1 hdg ((gj_if_gt cx hdg2 ht (fun q => kt ((lg_cmp_gt x y).mp q)) (fun q => kf (fun z => q ((lg_cmp_gt x y).mpr z))) : Gj p l e R s m args below meth c nL B cells slots Q (pc + 1) lo (.int (lg_cmp x y) :: st) w) H locs ls hB h)
theorem gj_if_le (cx : CallFix p m c cc nL s args Ts own) {x : Int32} {off : Int} {tgt : Nat} (hdg : decode cc pc = .ok (.ifCond .le off, 3)) (ht : (pc : Int) + off = (tgt : Int)) (kt : x ≤ 0 → Gj p l e R s m args below meth c nL B cells slots Q tgt lo st w) (kf : ¬ x ≤ 0 → Gj p l e R s m args below meth c nL B cells slots Q (pc + 3) lo st w) : Gj p l e R s m args below meth c nL B cells slots Q pc lo (.int x :: st) w :=
  fun H locs ls hB h => lv_if_le cx.1 cx.2.1 hdg ht (fun q => kt q H locs ls hB h) (fun q => kf q H locs ls hB h)
theorem gj_icmp_le (cx : CallFix p m c cc nL s args Ts own) {x y : Int32} {off : Int} {tgt : Nat} (hdg : decode cc pc = .ok (.if_icmp .le off, 3)) (ht : (pc : Int) + off = (tgt : Int)) (kt : x ≤ y → Gj p l e R s m args below meth c nL B cells slots Q tgt lo st w) (kf : ¬ x ≤ y → Gj p l e R s m args below meth c nL B cells slots Q (pc + 3) lo st w) : Gj p l e R s m args below meth c nL B cells slots Q pc lo (.int y :: .int x :: st) w :=
  fun H locs ls hB h => lv_icmp_le cx.1 cx.2.1 hdg ht (fun q => kt q H locs ls hB h) (fun q => kf q H locs ls hB h)
theorem gj_icmp_leN (cx : CallFix p m c cc nL s args Ts own) {a d : Nat} {off : Int} {tgt : Nat} (hdg : decode cc pc = .ok (.if_icmp .le off, 3)) (ht : (pc : Int) + off = (tgt : Int)) (ha : a < 2 ^ 31) (hd : d < 2 ^ 31) (kt : a ≤ d → Gj p l e R s m args below meth c nL B cells slots Q tgt lo st w) (kf : d < a → Gj p l e R s m args below meth c nL B cells slots Q (pc + 3) lo st w) : Gj p l e R s m args below meth c nL B cells slots Q pc lo (.int (nI d) :: .int (nI a) :: st) w :=
  gj_icmp_le cx hdg ht (fun q => kt ((nI_leI ha hd).mp q)) (fun q => kf (by have := mt (nI_leI ha hd).mpr q; omega))
theorem gj_if_leN (cx : CallFix p m c cc nL s args Ts own) {a : Nat} {off : Int} {tgt : Nat} (hdg : decode cc pc = .ok (.ifCond .le off, 3)) (ht : (pc : Int) + off = (tgt : Int)) (ha : a < 2 ^ 31) (kt : a ≤ 0 → Gj p l e R s m args below meth c nL B cells slots Q tgt lo st w) (kf : 0 < a → Gj p l e R s m args below meth c nL B cells slots Q (pc + 3) lo st w) : Gj p l e R s m args below meth c nL B cells slots Q pc lo (.int (nI a) :: st) w :=
  gj_if_le cx hdg ht (fun q => kt ((nI_leI ha gj_z31).mp q)) (fun q => kf (by have := mt (nI_leI ha gj_z31).mpr q; omega))
theorem gj_lcmp_le (cx : CallFix p m c cc nL s args Ts own) {x y : Int64} {off : Int} {tgt : Nat} (hdg : decode cc pc = .ok (.lcmp, 1)) (hdg2 : decode cc (pc + 1) = .ok (.ifCond .le off, 3)) (ht : ((pc + 1 : Nat) : Int) + off = (tgt : Int)) (kt : x ≤ y → Gj p l e R s m args below meth c nL B cells slots Q tgt lo st w) (kf : ¬ x ≤ y → Gj p l e R s m args below meth c nL B cells slots Q (pc + 4) lo st w) : Gj p l e R s m args below meth c nL B cells slots Q pc lo (.long y :: .long x :: st) w :=
  fun H locs ls hB h => W.lcmp cx.1 cx.2.1 hdg ((gj_if_le cx hdg2 ht (fun q => kt ((lg_cmp_le x y).mp q)) (fun q => kf (fun z => q ((lg_cmp_le x y).mpr z))) : Gj p l e R s m args below meth c nL B cells slots Q (pc + 1) lo (.int (lg_cmp x y) :: st) w) H locs ls hB h)
theorem gj_if_eqB (cx : CallFix p m c cc nL s args Ts own) {b : Bool} {off : Int} {tgt : Nat} (hdg : decode cc pc = .ok (.ifCond .eq off, 3)) (ht : (pc : Int) + off = (tgt : Int)) (kt : b = false → Gj p l e R s m args below meth c nL B cells slots Q tgt lo st w) (kf : b = true → Gj p l e R s m args below meth c nL B cells slots Q (pc + 3) lo st w) : Gj p l e R s m args below meth c nL B cells slots Q pc lo (.int (bI b) :: st) w :=
  gj_if_eq cx hdg ht (fun q => kt (bI_0 q)) (fun q => kf (bI_1 q))
theorem gj_if_neB (cx : CallFix p m c cc nL s args Ts own) {b : Bool} {off : Int} {tgt : Nat} (hdg : decode cc pc = .ok (.ifCond .ne off, 3)) (ht : (pc : Int) + off = (tgt : Int)) (kt : b = true → Gj p l e R s m args below meth c nL B cells slots Q tgt lo st w) (kf : b = false → Gj p l e R s m args below meth c nL B cells slots Q (pc + 3) lo st w) : Gj p l e R s m args below meth c nL B cells slots Q pc lo (.int (bI b) :: st) w :=
  gj_if_ne cx hdg ht (fun q => kt (bI_1 q)) (fun q => kf (bI_0 q))
end GJ
section GJW
variable {p : Program} {l : Launch} {e : Env} {R : Room} {s : State} {m : MethodId} {args : Array Value} {below : List Frame} {meth : Method} {c : Code} {cells slots : Nat} {Q : State → Prop}
variable {nL : Nat} {cc : ByteArray} {Ts : List Cond} {own : String} {pc : Nat} {lo : List (Nat × Value)} {st : List Value}
variable {ω : Type} {B : ω → Heap → List Loc → Prop} {w : ω}
variable {D : va_G} {cl : List vw_C} {tys : List (ClassId × FieldType)} {ws : va_W} {a : Nat}
theorem gj_get (cx : CallFix p m c cc nL s args Ts own) (hK : va_K D cl tys s) {C : String} {T : u_T} {N ci index : Nat} {fs : List Value} {v : Value} (hP : ∀ H locs, B w H locs → va_P D cl ws H) (hin : ∀ z ∈ u_ws C T N, z ∈ Ts) (hdg : decode cc pc = .ok (.getfield index, 3)) (q0 : Nat) (he : ws[q0]? = some (a, .inr (ci, fs))) (hc : cl[ci]? = some (C, T, N)) (k : Nat) (hk : k < N) (hlink : Cond.fieldLink own index (T k).1 (T k).2.1 (T k).2.2.1 ∈ Ts) (hv : fs[k]? = some v) (kk : Gj p l e R s m args below meth c nL B cells slots Q (pc + 3) lo (v :: st) w) : Gj p l e R s m args below meth c nL B cells slots Q pc lo (.ref a :: st) w :=
  fun H locs ls hB h => va_get cx.1 cx.2.1 cx.2.2.2.2 hin cx.2.2.2.1 hK (hP H locs hB) q0 he hc k hk (cx.2.2.2.2 _ hlink) (fun _ h9 => h9) hv hdg (kk H locs ls hB h)
theorem gj_iald (cx : CallFix p m c cc nL s args Ts own) (hK : va_K D cl tys s) {cA : ClassId} {n i : Nat} {f : Nat → Int32} (hP : ∀ H locs, B w H locs → va_P D cl ws H) (hdg : decode cc pc = .ok (.iaload, 1)) (q0 t0 : Nat) (ha : ws[q0]? = some (a, .inl (cA, n, .inl f))) (ht : tys[t0]? = some (cA, .int)) (hi : i < n) (hn : n < 2 ^ 31) (kk : Gj p l e R s m args below meth c nL B cells slots Q (pc + 1) lo (.int (f i) :: st) w) : Gj p l e R s m args below meth c nL B cells slots Q pc lo (.int (nI i) :: .ref a :: st) w := by
  intro H locs ls hB h
  refine va_iald cx.1 cx.2.1 hK (hP H locs hB) q0 t0 ha ht (vp_in_nI hi hn) hdg ?_
  rw [nI_clamp (by omega)]
  exact kk H locs ls hB h
theorem gj_lald (cx : CallFix p m c cc nL s args Ts own) (hK : va_K D cl tys s) {cA : ClassId} {n i : Nat} {f : Nat → Int64} (hP : ∀ H locs, B w H locs → va_P D cl ws H) (hdg : decode cc pc = .ok (.laload, 1)) (q0 t0 : Nat) (ha : ws[q0]? = some (a, .inl (cA, n, .inr (.inl f)))) (ht : tys[t0]? = some (cA, .long)) (hi : i < n) (hn : n < 2 ^ 31) (kk : Gj p l e R s m args below meth c nL B cells slots Q (pc + 1) lo (.long (f i) :: st) w) : Gj p l e R s m args below meth c nL B cells slots Q pc lo (.int (nI i) :: .ref a :: st) w := by
  intro H locs ls hB h
  refine va_lald cx.1 cx.2.1 hK (hP H locs hB) q0 t0 ha ht (vp_in_nI hi hn) hdg ?_
  rw [nI_clamp (by omega)]
  exact kk H locs ls hB h
theorem gj_ialdN (cx : CallFix p m c cc nL s args Ts own) (hK : va_K D cl tys s) {cA : ClassId} {n i : Nat} {f : Nat → Nat} (hP : ∀ H locs, B w H locs → va_P D cl ws H) (hdg : decode cc pc = .ok (.iaload, 1)) (q0 t0 : Nat) (ha : ws[q0]? = some (a, .inl (cA, n, .inl (fun j => nI (f j))))) (ht : tys[t0]? = some (cA, .int)) (hi : i < n) (hn : n < 2 ^ 31) (kk : Gj p l e R s m args below meth c nL B cells slots Q (pc + 1) lo (.int (nI (f i)) :: st) w) : Gj p l e R s m args below meth c nL B cells slots Q pc lo (.int (nI i) :: .ref a :: st) w :=
  gj_iald cx hK hP hdg q0 t0 ha ht hi hn kk
theorem gj_aald (cx : CallFix p m c cc nL s args Ts own) (hK : va_K D cl tys s) {cA : ClassId} {C : String} {n i : Nat} {f : Nat → Option Nat} {x : Nat} (hP : ∀ H locs, B w H locs → va_P D cl ws H) (hdg : decode cc pc = .ok (.aaload, 1)) (q0 t0 : Nat) (ha : ws[q0]? = some (a, .inl (cA, n, .inr (.inr (.inr (.inr f)))))) (ht : tys[t0]? = some (cA, .object C)) (hi : i < n) (hn : n < 2 ^ 31) (hx : f i = some x) (kk : Gj p l e R s m args below meth c nL B cells slots Q (pc + 1) lo (.ref x :: st) w) : Gj p l e R s m args below meth c nL B cells slots Q pc lo (.int (nI i) :: .ref a :: st) w := by
  intro H locs ls hB h
  refine va_aldq cx.1 cx.2.1 hK (hP H locs hB) q0 t0 ha ht (vp_in_nI hi hn) hdg ?_
  rw [nI_clamp (by omega), hx]
  exact kk H locs ls hB h
end GJW
section GJS
variable {p : Program} {l : Launch} {e : Env} {R : Room} {s : State} {m : MethodId} {args : Array Value} {below : List Frame} {meth : Method} {c : Code} {cells slots : Nat} {Q : State → Prop}
variable {nL : Nat} {cc : ByteArray} {Ts : List Cond} {own : String} {pc : Nat} {lo : List (Nat × Value)} {st : List Value}
variable {D : va_G} {cl : List vw_C} {tys : List (ClassId × FieldType)} {ws ws' : va_W} {a : Nat} {A : Nat → Prop} {H0 : Heap}
theorem gj_put (cx : CallFix p m c cc nL s args Ts own) (hK : va_K D cl tys s) {C : String} {T : u_T} {N ci index : Nat} {fs : List Value} {ty : FieldType} {v : Value} (hin : ∀ z ∈ u_ws C T N, z ∈ Ts) (ty0 : Nat → FieldType) (hty : ∀ k, k < N → parseFieldDescriptor (T k).2.2.1 = some (ty0 k)) (hnm : ∀ a, a < N → ∀ b, b < N → a ≠ b → (T a).2.1 ≠ (T b).2.1) (hdg : decode cc pc = .ok (.putfield index, 3)) (q0 : Nat) (he : ws[q0]? = some (a, .inr (ci, fs))) (hc : cl[ci]? = some (C, T, N)) (k : Nat) (hk : k < N) (hlink : Cond.fieldLink own index (T k).1 (T k).2.1 (T k).2.2.1 ∈ Ts) (hfin : (T k).2.2.2 = false) (hd : parseFieldDescriptor (T k).2.2.1 = some ty) (hnr : narrow ty v = v) (hfit : fits ty v = true) (hl : k < fs.length) (hws : ws.set q0 (a, .inr (ci, fs.set k v)) = ws') (kk : Gj p l e R s m args below meth c nL (Bw D cl A H0) cells slots Q (pc + 3) lo st ws') : Gj p l e R s m args below meth c nL (Bw D cl A H0) cells slots Q pc lo (v :: .ref a :: st) ws :=
  fun H locs ls hB h => va_put cx.1 cx.2.1 cx.2.2.2.2 hin ty0 hty hnm cx.2.2.2.1 hK hB.1 hB.2.1 hB.2.2 q0 he hc k hk (cx.2.2.2.2 _ hlink) (fun _ h9 => h9) hfin hd hnr hfit hl hdg (fun H1 locs1 hP hD hS => kk H1 locs1 ls (hws ▸ ⟨hP, hD, hS⟩) h)
theorem gj_iast (cx : CallFix p m c cc nL s args Ts own) (hK : va_K D cl tys s) {cA : ClassId} {n i : Nat} {f : Nat → Int32} {x : Int32} (hdg : decode cc pc = .ok (.iastore, 1)) (q0 t0 : Nat) (ha : ws[q0]? = some (a, .inl (cA, n, .inl f))) (ht : tys[t0]? = some (cA, .int)) (hi : i < n) (hn : n < 2 ^ 31) (hws : ws.set q0 (a, .inl (cA, n, .inl (upd f i x))) = ws') (kk : Gj p l e R s m args below meth c nL (Bw D cl A H0) cells slots Q (pc + 1) lo st ws') : Gj p l e R s m args below meth c nL (Bw D cl A H0) cells slots Q pc lo (.int x :: .int (nI i) :: .ref a :: st) ws := by
  intro H locs ls hB h
  refine va_iast cx.1 cx.2.1 hK hB.1 hB.2.1 hB.2.2 q0 t0 ha ht (vp_in_nI hi hn) hdg (fun H1 locs1 hP hD hS => ?_)
  rw [nI_clamp (by omega)] at hP hD
  exact kk H1 locs1 ls (hws ▸ ⟨hP, hD, hS⟩) h
theorem gj_iastN (cx : CallFix p m c cc nL s args Ts own) (hK : va_K D cl tys s) {cA : ClassId} {n i x : Nat} {f : Nat → Nat} (hdg : decode cc pc = .ok (.iastore, 1)) (q0 t0 : Nat) (ha : ws[q0]? = some (a, .inl (cA, n, .inl (fun j => nI (f j))))) (ht : tys[t0]? = some (cA, .int)) (hi : i < n) (hn : n < 2 ^ 31) (hws : ws.set q0 (a, .inl (cA, n, .inl (fun j => nI (va_up f i x j)))) = ws') (kk : Gj p l e R s m args below meth c nL (Bw D cl A H0) cells slots Q (pc + 1) lo st ws') : Gj p l e R s m args below meth c nL (Bw D cl A H0) cells slots Q pc lo (.int (nI x) :: .int (nI i) :: .ref a :: st) ws :=
  gj_iast cx hK hdg q0 t0 ha ht hi hn (by rw [gj_upd]; exact hws) kk
theorem gj_last (cx : CallFix p m c cc nL s args Ts own) (hK : va_K D cl tys s) {cA : ClassId} {n i : Nat} {f : Nat → Int64} {x : Int64} (hdg : decode cc pc = .ok (.lastore, 1)) (q0 t0 : Nat) (ha : ws[q0]? = some (a, .inl (cA, n, .inr (.inl f)))) (ht : tys[t0]? = some (cA, .long)) (hi : i < n) (hn : n < 2 ^ 31) (hws : ws.set q0 (a, .inl (cA, n, .inr (.inl (va_up f i x)))) = ws') (kk : Gj p l e R s m args below meth c nL (Bw D cl A H0) cells slots Q (pc + 1) lo st ws') : Gj p l e R s m args below meth c nL (Bw D cl A H0) cells slots Q pc lo (.long x :: .int (nI i) :: .ref a :: st) ws := by
  intro H locs ls hB h
  refine va_last cx.1 cx.2.1 hK hB.1 hB.2.1 hB.2.2 q0 t0 ha ht (vp_in_nI hi hn) hdg (fun H1 locs1 hP hD hS => ?_)
  rw [nI_clamp (by omega)] at hP hD
  exact kk H1 locs1 ls (hws ▸ ⟨hP, hD, hS⟩) h
end GJS
/-- a reader's start, a writer's start and end -/
def gj_CR (D : va_G) (cl : List vw_C) (tys : List (ClassId × FieldType)) (ws : va_W) (av : List Value) : Array Value → State → Prop := va_Pc av (fun U => va_P D cl ws U.heap ∧ va_K D cl tys U)
def gj_CW (D : va_G) (cl : List vw_C) (tys : List (ClassId × FieldType)) (ws : va_W) (sz : Nat) (av : List Value) : Array Value → State → Prop := va_Pc av (fun U => U.heap.size = sz ∧ va_P D cl ws U.heap ∧ va_K D cl tys U ∧ va_D (fun _ => True) ws)
def gj_E (D : va_G) (cl : List vw_C) (ws ws' : va_W) (sz : Nat) : Unit → State → Prop := fun _ t => va_P D cl ws' t.heap ∧ va_D (va_A ws sz) ws'
abbrev MRi (l : Launch) (y : MethodName) (wy : List Cond) (rm : Room) (D : va_G) (cl : List vw_C) (tys : List (ClassId × FieldType)) (ws : va_W) (av : List Value) (v : Int32) : Prop := Met l y wy rm (gj_CR D cl tys ws av) (vp_Si (fun r => r = v)) 0 0 (fun _ => False)
abbrev MRl (l : Launch) (y : MethodName) (wy : List Cond) (rm : Room) (D : va_G) (cl : List vw_C) (tys : List (ClassId × FieldType)) (ws : va_W) (av : List Value) (v : Int64) : Prop := Met l y wy rm (gj_CR D cl tys ws av) (vp_Sl (fun r => r = v)) 0 0 (fun _ => False)
abbrev MWi (l : Launch) (y : MethodName) (wy : List Cond) (rm : Room) (D : va_G) (cl : List vw_C) (tys : List (ClassId × FieldType)) (ws ws' : va_W) (sz : Nat) (av : List Value) (v : Int32) : Prop := Met l y wy rm (gj_CW D cl tys ws sz av) (va_Qi (fun r (_ : Unit) => r = v) (gj_E D cl ws ws' sz) (va_A ws sz)) 0 0 (va_A ws sz)
abbrev MWv (l : Launch) (y : MethodName) (wy : List Cond) (rm : Room) (D : va_G) (cl : List vw_C) (tys : List (ClassId × FieldType)) (ws ws' : va_W) (sz : Nat) (av : List Value) : Prop := Met l y wy rm (gj_CW D cl tys ws sz av) (va_Qv (fun (_ : Unit) => True) (gj_E D cl ws ws' sz) (va_A ws sz)) 0 0 (va_A ws sz)
theorem gj_enterR {l : Launch} {y : MethodName} {wy wy' : List Cond} {rm : Room} {D : va_G} {cl : List vw_C} {tys : List (ClassId × FieldType)} {ws : va_W} {av : List Value} {Qc : Array Value → State → Outcome → State → Prop} {mc ms : Nat} {free : Addr → Prop} {cc : ByteArray} {maxL : Nat} {ret : Option FieldType} {own : String} {lo : List (Nat × Value)} (hy : plainName y.cls = true) (hw : wy = Cond.code y cc maxL ret :: wy') (hlen : (lg_sl av).length ≤ maxL) (hown : y.cls = own) (hlo : lv_args 0 av = lo)
    (body : ∀ p e s m below meth c, CallFix p m c cc maxL s av.toArray wy own → meth.sig.returnType = ret → meth.locks = false → va_K D cl tys s → Gj p l e rm s m av.toArray below meth c maxL (Br D cl s.heap) 0 0 (MQ below Qc av.toArray s mc ms free) 0 lo [] ws) : Met l y wy rm (gj_CR D cl tys ws av) Qc mc ms free := by
  refine Met.ofW (cc := cc) (maxL := maxL) (ret := ret) hy hw ?_
  intro p e s m args below meth c s₁ B hml hv
  obtain ⟨rfl, hP, hK⟩ := hv
  have hl := lv_entry av (n := maxL) hlen
  rw [lg_entry_eq]
  subst hown
  exact body p e s m below meth c ⟨B.exec, B.bytes, hml, findClass_of_methodNamed B.named, atoms_spec (ws := wy) B.pre⟩ B.returns B.notSynchronized hK s.heap [] _ ⟨rfl, rfl, hP⟩ (hlo ▸ hl)
theorem gj_enterW {l : Launch} {y : MethodName} {wy wy' : List Cond} {rm : Room} {D : va_G} {cl : List vw_C} {tys : List (ClassId × FieldType)} {ws : va_W} {av : List Value} {Qc : Array Value → State → Outcome → State → Prop} {mc ms sz : Nat} {free : Addr → Prop} {cc : ByteArray} {maxL : Nat} {ret : Option FieldType} {own : String} {lo : List (Nat × Value)} (hy : plainName y.cls = true) (hw : wy = Cond.code y cc maxL ret :: wy') (hlen : (lg_sl av).length ≤ maxL) (hown : y.cls = own) (hlo : lv_args 0 av = lo)
    (body : ∀ p e s m below meth c, CallFix p m c cc maxL s av.toArray wy own → meth.sig.returnType = ret → meth.locks = false → va_K D cl tys s → s.heap.size = sz → Gj p l e rm s m av.toArray below meth c maxL (Bw D cl (va_A ws sz) s.heap) 0 0 (MQ below Qc av.toArray s mc ms free) 0 lo [] ws) : Met l y wy rm (gj_CW D cl tys ws sz av) Qc mc ms free := by
  refine Met.ofW (cc := cc) (maxL := maxL) (ret := ret) hy hw ?_
  intro p e s m args below meth c s₁ B hml hv
  obtain ⟨rfl, hsz, hP, hK, hD⟩ := hv
  have hl := lv_entry av (n := maxL) hlen
  rw [lg_entry_eq]
  subst hown
  exact body p e s m below meth c ⟨B.exec, B.bytes, hml, findClass_of_methodNamed B.named, atoms_spec (ws := wy) B.pre⟩ B.returns B.notSynchronized hK hsz s.heap [] _ ⟨hP, hD.self, va_S.rf⟩ (hlo ▸ hl)
section GJR
variable {p : Program} {l : Launch} {e : Env} {R : Room} {s : State} {m : MethodId} {args : Array Value} {below : List Frame} {meth : Method} {c : Code} {cells slots : Nat} {Q : State → Prop}
variable {nL : Nat} {cc : ByteArray} {Ts : List Cond} {own : String} {pc : Nat} {lo : List (Nat × Value)} {st : List Value}
variable {D : va_G} {cl : List vw_C} {tys : List (ClassId × FieldType)} {ws ws' ws0 : va_W} {A : Nat → Prop} {sz : Nat}
theorem gj_iretR (cx : CallFix p m c cc nL s args Ts own) (hr : meth.sig.returnType = some .int) (hlk : meth.locks = false) {x : Int32} {post : Int32 → Prop} (hdg : decode cc pc = .ok (.ireturn, 1)) (hp : post x) : Gj p l e R s m args below meth c nL (Br D cl s.heap) 0 0 (MQ below (vp_Si post) args s 0 0 (fun _ => False)) pc lo [.int x] ws := by
  intro H locs ls hB h
  obtain ⟨rfl, rfl, hP⟩ := hB
  exact W.iret cx.1 cx.2.1 hr (fun t ht _ => ⟨x, rfl, hp, ht⟩) (fun q z => by cases z) hdg hlk
theorem gj_zretR (cx : CallFix p m c cc nL s args Ts own) (hr : meth.sig.returnType = some .boolean) (hlk : meth.locks = false) {x : Int32} {post : Int32 → Prop} (hdg : decode cc pc = .ok (.ireturn, 1)) (hn : narrow .boolean (.int x) = .int x) (hp : post x) : Gj p l e R s m args below meth c nL (Br D cl s.heap) 0 0 (MQ below (vp_Si post) args s 0 0 (fun _ => False)) pc lo [.int x] ws := by
  intro H locs ls hB h
  obtain ⟨rfl, rfl, hP⟩ := hB
  exact W.zret cx.1 cx.2.1 hr hn (fun t ht _ => ⟨x, rfl, hp, ht⟩) (fun q z => by cases z) hdg hlk
theorem gj_lretR (cx : CallFix p m c cc nL s args Ts own) (hr : meth.sig.returnType = some .long) (hlk : meth.locks = false) {x : Int64} {post : Int64 → Prop} (hdg : decode cc pc = .ok (.lreturn, 1)) (hp : post x) : Gj p l e R s m args below meth c nL (Br D cl s.heap) 0 0 (MQ below (vp_Sl post) args s 0 0 (fun _ => False)) pc lo [.long x] ws := by
  intro H locs ls hB h
  obtain ⟨rfl, rfl, hP⟩ := hB
  exact W.lret cx.1 cx.2.1 hr (fun t ht _ => ⟨x, rfl, hp, ht⟩) (fun q z => by cases z) hdg hlk
theorem gj_iretW (cx : CallFix p m c cc nL s args Ts own) (hr : meth.sig.returnType = some .int) (hlk : meth.locks = false) {x v : Int32} (hdg : decode cc pc = .ok (.ireturn, 1)) (hx : x = v) (hws : ws' = ws) : Gj p l e R s m args below meth c nL (Bw D cl (va_A ws0 sz) s.heap) 0 0 (MQ below (va_Qi (fun r (_ : Unit) => r = v) (gj_E D cl ws0 ws sz) (va_A ws0 sz)) args s 0 0 (va_A ws0 sz)) pc lo [.int x] ws' := by
  subst hws
  intro H locs ls hB h
  exact W.iret cx.1 cx.2.1 hr (fun t ht _ => ⟨⟨x, (), rfl, hx, by rw [ht]; exact hB.1, hB.2.1⟩, hB.2.2.F ht⟩) hB.2.2.2.2 hdg hlk
theorem gj_zretW (cx : CallFix p m c cc nL s args Ts own) (hr : meth.sig.returnType = some .boolean) (hlk : meth.locks = false) {x v : Int32} (hdg : decode cc pc = .ok (.ireturn, 1)) (hn : narrow .boolean (.int x) = .int x) (hx : x = v) (hws : ws' = ws) : Gj p l e R s m args below meth c nL (Bw D cl (va_A ws0 sz) s.heap) 0 0 (MQ below (va_Qi (fun r (_ : Unit) => r = v) (gj_E D cl ws0 ws sz) (va_A ws0 sz)) args s 0 0 (va_A ws0 sz)) pc lo [.int x] ws' := by
  subst hws
  intro H locs ls hB h
  exact W.zret cx.1 cx.2.1 hr hn (fun t ht _ => ⟨⟨x, (), rfl, hx, by rw [ht]; exact hB.1, hB.2.1⟩, hB.2.2.F ht⟩) hB.2.2.2.2 hdg hlk
theorem gj_vretW (cx : CallFix p m c cc nL s args Ts own) (hr : meth.sig.returnType = none) (hlk : meth.locks = false) (hdg : decode cc pc = .ok (.return_, 1)) (hws : ws' = ws) : Gj p l e R s m args below meth c nL (Bw D cl (va_A ws0 sz) s.heap) 0 0 (MQ below (va_Qv (fun (_ : Unit) => True) (gj_E D cl ws0 ws sz) (va_A ws0 sz)) args s 0 0 (va_A ws0 sz)) pc lo [] ws' := by
  subst hws
  intro H locs ls hB h
  exact W.vret cx.1 cx.2.1 hr (fun t ht _ => ⟨⟨(), rfl, trivial, by rw [ht]; exact hB.1, hB.2.1⟩, hB.2.2.F ht⟩) hB.2.2.2.2 hdg hlk
end GJR
section GJC
variable {p : Program} {l : Launch} {e : Env} {R : Room} {s : State} {m : MethodId} {args : Array Value} {below : List Frame} {meth : Method} {c : Code} {cells slots : Nat} {Q : State → Prop}
variable {nL : Nat} {cc : ByteArray} {Ts : List Cond} {own : String} {pc : Nat} {lo : List (Nat × Value)} {st : List Value}
variable {ω : Type} {B : ω → Heap → List Loc → Prop} {w : ω}
variable {D : va_G} {cl : List vw_C} {tys : List (ClassId × FieldType)} {wc : va_W} {y : MethodName} {wy : List Cond} {rm : Room} {bytes : ByteArray} {maxL n index : Nat} {ret : Option FieldType} {C : String} {b : Nat} {As rest : List Value}
theorem gj_callVRi (cx : CallFix p m c cc nL s args Ts own) (hK : va_K D cl tys s) {v : Int32} (hM : MRi l y wy rm D cl tys wc (.ref b :: As) v) (cw : CallW R s args own C index y bytes maxL ret wy rm 0 0 n) (hP : ∀ H locs, B w H locs → va_P D cl wc H) (q0 ci : Nat) {q : vw_C} {fs : List Value} (hq : cl[ci]? = some q) (he : wc[q0]? = some (b, .inr (ci, fs))) (hC : q.1 = C) (hn : As.length = n) (hst : st = As.reverse ++ .ref b :: rest) (hW : (rest.map fun v => v.category).sum ≤ 8) (hdg : decode cc pc = .ok (.invokevirtual index, 3)) (hcs : cells + 0 ≤ R.cells ∧ slots + 0 ≤ R.slots) (kk : Gj p l e R s m args below meth c nL B cells slots Q (pc + 3) lo (.int v :: rest) w) : Gj p l e R s m args below meth c nL B cells slots Q pc lo st w := by
  intro H locs ls hB h
  subst hC
  exact vp_callSi (rest := rest) (va_Run.run (va_runV (As := As) (rest := rest) cx hM cw ⟨(fun a U g mk q => ⟨q.1, q.2.1, va_K.moved (u := U) (U := U.calling g mk a) (Vm.Alike.refl U.vm) q.2.2⟩), va_recv hK (hP H locs hB) hq he, (fun U hU hW => ⟨rfl, by rw [hU]; exact hP H locs hB, va_K.moved hW.alike hK⟩)⟩ rfl hn h.1 hst (lv_room hW) hdg hcs)) (fun r hr => by subst hr; exact kk H locs ls hB h)
theorem gj_callSRi (cx : CallFix p m c cc nL s args Ts own) (hK : va_K D cl tys s) {v : Int32} (hM : MRi l y wy rm D cl tys wc As v) (cw : CallB R s args own index y bytes maxL ret wy rm 0 0 n ∧ (Cond.static y).before args s = true) (hP : ∀ H locs, B w H locs → va_P D cl wc H) (hn : As.length = n) (hst : st = As.reverse ++ rest) (hW : (rest.map fun v => v.category).sum ≤ 8) (hdg : decode cc pc = .ok (.invokestatic index, 3)) (hcs : cells + 0 ≤ R.cells ∧ slots + 0 ≤ R.slots) (kk : Gj p l e R s m args below meth c nL B cells slots Q (pc + 3) lo (.int v :: rest) w) : Gj p l e R s m args below meth c nL B cells slots Q pc lo st w := by
  intro H locs ls hB h
  exact vp_callSi (rest := rest) (va_Run.run (va_runS (As := As) (rest := rest) cx hM cw ⟨(fun a U g mk q => ⟨q.1, q.2.1, va_K.moved (u := U) (U := U.calling g mk a) (Vm.Alike.refl U.vm) q.2.2⟩), (fun U hU hW => ⟨rfl, by rw [hU]; exact hP H locs hB, va_K.moved hW.alike hK⟩)⟩ rfl hn h.1 hst (lv_room hW) hdg hcs)) (fun r hr => by subst hr; exact kk H locs ls hB h)
theorem gj_callVRl (cx : CallFix p m c cc nL s args Ts own) (hK : va_K D cl tys s) {v : Int64} (hM : MRl l y wy rm D cl tys wc (.ref b :: As) v) (cw : CallW R s args own C index y bytes maxL ret wy rm 0 0 n) (hP : ∀ H locs, B w H locs → va_P D cl wc H) (q0 ci : Nat) {q : vw_C} {fs : List Value} (hq : cl[ci]? = some q) (he : wc[q0]? = some (b, .inr (ci, fs))) (hC : q.1 = C) (hn : As.length = n) (hst : st = As.reverse ++ .ref b :: rest) (hW : (rest.map fun v => v.category).sum ≤ 8) (hdg : decode cc pc = .ok (.invokevirtual index, 3)) (hcs : cells + 0 ≤ R.cells ∧ slots + 0 ≤ R.slots) (kk : Gj p l e R s m args below meth c nL B cells slots Q (pc + 3) lo (.long v :: rest) w) : Gj p l e R s m args below meth c nL B cells slots Q pc lo st w := by
  intro H locs ls hB h
  subst hC
  exact vp_callSl (rest := rest) (va_Run.run (va_runV (As := As) (rest := rest) cx hM cw ⟨(fun a U g mk q => ⟨q.1, q.2.1, va_K.moved (u := U) (U := U.calling g mk a) (Vm.Alike.refl U.vm) q.2.2⟩), va_recv hK (hP H locs hB) hq he, (fun U hU hW => ⟨rfl, by rw [hU]; exact hP H locs hB, va_K.moved hW.alike hK⟩)⟩ rfl hn h.1 hst (lv_room hW) hdg hcs)) (fun r hr => by subst hr; exact kk H locs ls hB h)
theorem gj_callSRl (cx : CallFix p m c cc nL s args Ts own) (hK : va_K D cl tys s) {v : Int64} (hM : MRl l y wy rm D cl tys wc As v) (cw : CallB R s args own index y bytes maxL ret wy rm 0 0 n ∧ (Cond.static y).before args s = true) (hP : ∀ H locs, B w H locs → va_P D cl wc H) (hn : As.length = n) (hst : st = As.reverse ++ rest) (hW : (rest.map fun v => v.category).sum ≤ 8) (hdg : decode cc pc = .ok (.invokestatic index, 3)) (hcs : cells + 0 ≤ R.cells ∧ slots + 0 ≤ R.slots) (kk : Gj p l e R s m args below meth c nL B cells slots Q (pc + 3) lo (.long v :: rest) w) : Gj p l e R s m args below meth c nL B cells slots Q pc lo st w := by
  intro H locs ls hB h
  exact vp_callSl (rest := rest) (va_Run.run (va_runS (As := As) (rest := rest) cx hM cw ⟨(fun a U g mk q => ⟨q.1, q.2.1, va_K.moved (u := U) (U := U.calling g mk a) (Vm.Alike.refl U.vm) q.2.2⟩), (fun U hU hW => ⟨rfl, by rw [hU]; exact hP H locs hB, va_K.moved hW.alike hK⟩)⟩ rfl hn h.1 hst (lv_room hW) hdg hcs)) (fun r hr => by subst hr; exact kk H locs ls hB h)
theorem gj_P0 {D : va_G} {cl : List vw_C} {H : Heap} : va_P D cl [] H := fun k q hk => by simp at hk
end GJC
section GJD
variable {p : Program} {l : Launch} {e : Env} {R : Room} {s : State} {m : MethodId} {args : Array Value} {below : List Frame} {meth : Method} {c : Code} {cells slots : Nat} {Q : State → Prop}
variable {nL : Nat} {cc : ByteArray} {Ts : List Cond} {own : String} {pc : Nat} {lo : List (Nat × Value)} {st : List Value}
variable {D : va_G} {cl : List vw_C} {tys : List (ClassId × FieldType)} {ws ws' ws0 : va_W} {A : Nat → Prop} {sz : Nat}
variable {y : MethodName} {wy : List Cond} {rm : Room} {bytes : ByteArray} {maxL n index : Nat} {ret : Option FieldType} {C : String} {b : Nat} {As rest : List Value} {H0 : Heap} {wc wc' : va_W}
/-- the callee's world is a part wc of the caller's world ws; behind the call wc' stands for it, and ws' for the whole: by J -/
def gj_J (D : va_G) (cl : List vw_C) (A : Nat → Prop) (ws wc wc' ws' : va_W) : Prop := (∀ H, va_P D cl ws H → va_P D cl wc H) ∧ (va_D A ws → va_D A wc) ∧ ∀ (H H1 : Heap), va_P D cl ws H → va_D A ws → (∀ q : Nat, q < H.size → ¬ va_A wc H.size q → H1[q]? = H[q]?) → (∀ q, va_A wc H.size q → A q) → va_P D cl wc' H1 → va_D (va_A wc H.size) wc' → va_P D cl ws' H1 ∧ va_D A ws'
theorem gj_J.self {D : va_G} {cl : List vw_C} {A : Nat → Prop} {ws ws' : va_W} : gj_J D cl A ws ws ws' ws' :=
  ⟨fun _ h => h, fun h => h, fun H H1 _ _ _ hF hP hD => ⟨hP, hD.weaken (fun k q _ h => hF q.1 h)⟩⟩
theorem gj_AF {A : Nat → Prop} {wc : va_W} {H0 H : Heap} {locs : List Loc} (hDc : va_D A wc) (hS : va_S A H0 H locs) (hA : ∀ q, H0.size ≤ q → A q) : ∀ q, va_A wc H.size q → A q := by
  intro q h
  rcases h with ⟨k, e, h⟩ | h
  · exact hDc.2 k (q, e) h
  · exact hA q (Nat.le_trans hS.1 h)
theorem gj_callVWi (cx : CallFix p m c cc nL s args Ts own) (hK : va_K D cl tys s) (hA : ∀ q, H0.size ≤ q → A q) {v : Int32} (hM : ∀ sz, MWi l y wy rm D cl tys wc wc' sz (.ref b :: As) v) (cw : CallW R s args own C index y bytes maxL ret wy rm 0 0 n) (hJ : gj_J D cl A ws wc wc' ws') (q0 ci : Nat) {q : vw_C} {fs : List Value} (hq : cl[ci]? = some q) (he : wc[q0]? = some (b, .inr (ci, fs))) (hC : q.1 = C) (hn : As.length = n) (hst : st = As.reverse ++ .ref b :: rest) (hW : (rest.map fun v => v.category).sum ≤ 8) (hdg : decode cc pc = .ok (.invokevirtual index, 3)) (hcs : cells + 0 ≤ R.cells ∧ slots + 0 ≤ R.slots) (kk : Gj p l e R s m args below meth c nL (Bw D cl A H0) cells slots Q (pc + 3) lo (.int v :: rest) ws') : Gj p l e R s m args below meth c nL (Bw D cl A H0) cells slots Q pc lo st ws := by
  intro H locs ls hB h
  subst hC
  have hPc := hJ.1 H hB.1
  have hDc := hJ.2.1 hB.2.1
  have hF := gj_AF hDc hB.2.2 hA
  refine va_calli (rest := rest) (va_runV (As := As) (rest := rest) cx (hM H.size) cw ⟨(fun a U g mk q => ⟨q.1, q.2.1, q.2.2.1, va_K.moved (u := U) (U := U.calling g mk a) (Vm.Alike.refl U.vm) q.2.2.2.1, q.2.2.2.2⟩), va_recv hK hPc hq he, (fun U hU hW => ⟨rfl, by rw [hU], by rw [hU]; exact hPc, va_K.moved hW.alike hK, hDc.weaken (fun _ _ _ _ => trivial)⟩)⟩ rfl hn h.1 hst (lv_room hW) hdg hcs) hB.2.2 (fun q _ h => hF q h) hF (fun r u t H1 locs1 ht _ hr hE _ hk hS => ?_)
  subst hr
  obtain ⟨hP1, hD1⟩ := hE
  rw [ht] at hP1
  obtain ⟨hP2, hD2⟩ := hJ.2.2 H H1 hB.1 hB.2.1 hk hF hP1 hD1
  exact kk H1 locs1 ls ⟨hP2, hD2, hS⟩ h
theorem gj_callVWv (cx : CallFix p m c cc nL s args Ts own) (hK : va_K D cl tys s) (hA : ∀ q, H0.size ≤ q → A q) (hM : ∀ sz, MWv l y wy rm D cl tys wc wc' sz (.ref b :: As)) (cw : CallW R s args own C index y bytes maxL ret wy rm 0 0 n) (hJ : gj_J D cl A ws wc wc' ws') (q0 ci : Nat) {q : vw_C} {fs : List Value} (hq : cl[ci]? = some q) (he : wc[q0]? = some (b, .inr (ci, fs))) (hC : q.1 = C) (hn : As.length = n) (hst : st = As.reverse ++ .ref b :: rest) (hW : (rest.map fun v => v.category).sum ≤ 8) (hdg : decode cc pc = .ok (.invokevirtual index, 3)) (hcs : cells + 0 ≤ R.cells ∧ slots + 0 ≤ R.slots) (kk : Gj p l e R s m args below meth c nL (Bw D cl A H0) cells slots Q (pc + 3) lo rest ws') : Gj p l e R s m args below meth c nL (Bw D cl A H0) cells slots Q pc lo st ws := by
  intro H locs ls hB h
  subst hC
  have hPc := hJ.1 H hB.1
  have hDc := hJ.2.1 hB.2.1
  have hF := gj_AF hDc hB.2.2 hA
  refine va_callv (rest := rest) (va_runV (As := As) (rest := rest) cx (hM H.size) cw ⟨(fun a U g mk q => ⟨q.1, q.2.1, q.2.2.1, va_K.moved (u := U) (U := U.calling g mk a) (Vm.Alike.refl U.vm) q.2.2.2.1, q.2.2.2.2⟩), va_recv hK hPc hq he, (fun U hU hW => ⟨rfl, by rw [hU], by rw [hU]; exact hPc, va_K.moved hW.alike hK, hDc.weaken (fun _ _ _ _ => trivial)⟩)⟩ rfl hn h.1 hst (lv_room hW) hdg hcs) hB.2.2 (fun q _ h => hF q h) hF (fun u t H1 locs1 ht _ _ hE _ hk hS => ?_)
  obtain ⟨hP1, hD1⟩ := hE
  rw [ht] at hP1
  obtain ⟨hP2, hD2⟩ := hJ.2.2 H H1 hB.1 hB.2.1 hk hF hP1 hD1
  exact kk H1 locs1 ls ⟨hP2, hD2, hS⟩ h
theorem gj_callSWv (cx : CallFix p m c cc nL s args Ts own) (hK : va_K D cl tys s) (hA : ∀ q, H0.size ≤ q → A q) (hM : ∀ sz, MWv l y wy rm D cl tys wc wc' sz As) (cw : CallB R s args own index y bytes maxL ret wy rm 0 0 n ∧ (Cond.static y).before args s = true) (hJ : gj_J D cl A ws wc wc' ws') (hn : As.length = n) (hst : st = As.reverse ++ rest) (hW : (rest.map fun v => v.category).sum ≤ 8) (hdg : decode cc pc = .ok (.invokestatic index, 3)) (hcs : cells + 0 ≤ R.cells ∧ slots + 0 ≤ R.slots) (kk : Gj p l e R s m args below meth c nL (Bw D cl A H0) cells slots Q (pc + 3) lo rest ws') : Gj p l e R s m args below meth c nL (Bw D cl A H0) cells slots Q pc lo st ws := by
  intro H locs ls hB h
  have hPc := hJ.1 H hB.1
  have hDc := hJ.2.1 hB.2.1
  have hF := gj_AF hDc hB.2.2 hA
  refine va_callv (rest := rest) (va_runS (As := As) (rest := rest) cx (hM H.size) cw ⟨(fun a U g mk q => ⟨q.1, q.2.1, q.2.2.1, va_K.moved (u := U) (U := U.calling g mk a) (Vm.Alike.refl U.vm) q.2.2.2.1, q.2.2.2.2⟩), (fun U hU hW => ⟨rfl, by rw [hU], by rw [hU]; exact hPc, va_K.moved hW.alike hK, hDc.weaken (fun _ _ _ _ => trivial)⟩)⟩ rfl hn h.1 hst (lv_room hW) hdg hcs) hB.2.2 (fun q _ h => hF q h) hF (fun u t H1 locs1 ht _ _ hE _ hk hS => ?_)
  obtain ⟨hP1, hD1⟩ := hE
  rw [ht] at hP1
  obtain ⟨hP2, hD2⟩ := hJ.2.2 H H1 hB.1 hB.2.1 hk hF hP1 hD1
  exact kk H1 locs1 ls ⟨hP2, hD2, hS⟩ h
end GJD
section GJM
variable {p : Program} {l : Launch} {e : Env} {R : Room} {s : State} {m : MethodId} {args : Array Value} {below : List Frame} {meth : Method} {c : Code} {cells slots : Nat} {Q : State → Prop}
variable {nL : Nat} {cc : ByteArray} {Ts : List Cond} {own : String} {pc : Nat} {lo : List (Nat × Value)} {st : List Value}
variable {ω : Type} {B : ω → Heap → List Loc → Prop} {w : ω}
theorem gj_mmax (cx : CallFix p m c cc nL s args Ts own) {index : Nat} {x y : Int32} (hdg : decode cc pc = .ok (.invokestatic index, 3)) (hlink : Cond.methodLink own index Lib.Math.max.name ∈ Ts) (hstat : Cond.static Lib.Math.max.name ∈ Ts) (hini : Cond.initialized "java/lang/Math" ∈ Ts) (hcode : Cond.code Lib.Math.max.name Lib.Math.max.code 2 (some .int) ∈ Ts) (hfr : 1 ≤ R.frames) (hlc : (st.map fun v => v.category).sum + 13 ≤ R.locals) (hc : cells ≤ R.cells) (hs : slots ≤ R.slots) (kk : Gj p l e R s m args below meth c nL B cells slots Q (pc + 3) lo (.int (if x < y then y else x) :: st) w) : Gj p l e R s m args below meth c nL B cells slots Q pc lo (.int y :: .int x :: st) w :=
  fun H locs ls hB h => va_mmax cx.1 cx.2.1 (cx.2.2.1.trans h.1.symm) cx.2.2.2.1 (cx.2.2.2.2 _ hlink) (cx.2.2.2.2 _ hstat) (cx.2.2.2.2 _ hini) (cx.2.2.2.2 _ hcode) hfr hlc hc hs hdg (kk H locs ls hB h)
theorem gj_mmin (cx : CallFix p m c cc nL s args Ts own) {index : Nat} {x y : Int32} (hdg : decode cc pc = .ok (.invokestatic index, 3)) (hlink : Cond.methodLink own index Lib.Math.min.name ∈ Ts) (hstat : Cond.static Lib.Math.min.name ∈ Ts) (hini : Cond.initialized "java/lang/Math" ∈ Ts) (hcode : Cond.code Lib.Math.min.name Lib.Math.min.code 2 (some .int) ∈ Ts) (hfr : 1 ≤ R.frames) (hlc : (st.map fun v => v.category).sum + 13 ≤ R.locals) (hc : cells ≤ R.cells) (hs : slots ≤ R.slots) (kk : Gj p l e R s m args below meth c nL B cells slots Q (pc + 3) lo (.int (if y < x then y else x) :: st) w) : Gj p l e R s m args below meth c nL B cells slots Q pc lo (.int y :: .int x :: st) w :=
  fun H locs ls hB h => va_mmin cx.1 cx.2.1 (cx.2.2.1.trans h.1.symm) cx.2.2.2.1 (cx.2.2.2.2 _ hlink) (cx.2.2.2.2 _ hstat) (cx.2.2.2.2 _ hini) (cx.2.2.2.2 _ hcode) hfr hlc hc hs hdg (kk H locs ls hB h)
end GJM
