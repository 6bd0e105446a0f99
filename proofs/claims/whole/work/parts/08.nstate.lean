/-! A node's cells -/
abbrev tyl (cI cJ : ClassId) : List (ClassId × FieldType) := [(cI, .int), (cJ, .long)]
def nW (cI cJ : ClassId) (a : Nat → Nat) (me n f : Nat) (u : NS) : va_W :=
  [(a 0, .inr (0, [.int (nI me), .int (nI n), .int (nI f), .int (nI (nCo u)), .int (nI (nFu u)), .int (nI (nSu u)), .ref (a 1), .ref (a 2), .ref (a 3), .ref (a 4), .ref (a 5), .ref (a 6)])),
   (a 1, .inl (cJ, 141, .inr (.inl (nSa u)))), (a 2, .inl (cI, 7, .inl (fun j => nI (nCn u j)))), (a 3, .inl (cI, 7, .inl (fun j => nI (nFr u j)))),
   (a 4, .inl (cJ, 7, .inr (.inl (nBa u)))), (a 5, .inl (cJ, 987, .inr (.inl (nTo u)))), (a 6, .inl (cJ, 35, .inr (.inl (nAc u))))]
theorem nTell_lt (u : NS) (t n : Nat) : nTell u t n ≤ n := cntB_le _ _
theorem nTellOf_lt (u : NS) (t : Nat) (p : Int64) (n : Nat) : nTellOf u t p n ≤ n := cntB_le _ _
theorem fuse_max {k : Nat} (h : k ≤ 9) : (if nI 0 < nI k - nI 1 then nI k - nI 1 else nI 0) = nI (k - 1) := by
  have : ∀ k : Fin 10, (if nI 0 < nI k.val - nI 1 then nI k.val - nI 1 else nI 0) = nI (k.val - 1) := by decide +kernel
  exact this ⟨k, by omega⟩
section CELL
variable {p : Program} {l : Launch} {e : Env} {R : Room} {s : State} {m : MethodId} {args : Array Value} {below : List Frame} {meth : Method} {c : Code} {cells slots : Nat} {Q : State → Prop}
variable {nL : Nat} {cc : ByteArray} {Ts : List Cond} {own : String} {pc : Nat} {lo : List (Nat × Value)} {st : List Value}
variable {D : va_G} {cl : List vw_C} {tys : List (ClassId × FieldType)} {ws ws' : va_W} {A : Nat → Prop} {H0 : Heap} {a : Nat}
/-- a row's contents beyond its length are nobody's business -/
theorem gj_arrL {cA : ClassId} {n : Nat} {f f' : Nat → Int64} (q0 : Nat) (ha : ws[q0]? = some (a, .inl (cA, n, .inr (.inl f)))) (hf : ∀ j, j < n → f j = f' j) (hws : ws.set q0 (a, .inl (cA, n, .inr (.inl f'))) = ws') (kk : Gj p l e R s m args below meth c nL (Bw D cl A H0) cells slots Q pc lo st ws') : Gj p l e R s m args below meth c nL (Bw D cl A H0) cells slots Q pc lo st ws := by
  intro H locs ls hB h
  refine kk H locs ls (hws ▸ ⟨?_, hB.2.1.set ha, hB.2.2⟩) h
  refine hB.1.set hB.2.1 ha ?_ (fun _ _ => rfl)
  have h1 : H[a]? = some (vp_cell cA (n, .inr (.inl f))) := hB.1 q0 _ ha
  show H[a]? = some (vp_cell cA (n, .inr (.inl f')))
  rw [h1, vp_cell_l, vp_cell_l]
  have e : (fun j : Fin n => Value.long (f j.val)) = (fun j : Fin n => Value.long (f' j.val)) := by
    funext j
    rw [hf j.val j.isLt]
  unfold arrV
  rw [e]
theorem gj_alen {cA : ClassId} {n : Nat} {x : vp_A} {ty : FieldType} {ω : Type} {B : ω → Heap → List Loc → Prop} {w : ω} (cx : CallFix p m c cc nL s args Ts own) (hK : va_K D cl tys s) (hP : ∀ H locs, B w H locs → va_P D cl ws H) (hdg : decode cc pc = .ok (.arraylength, 1)) (q0 t0 : Nat) (ha : ws[q0]? = some (a, .inl (cA, x))) (ht : tys[t0]? = some (cA, ty)) (hn : x.1 = n) (kk : Gj p l e R s m args below meth c nL B cells slots Q (pc + 1) lo (.int (nI n) :: st) w) : Gj p l e R s m args below meth c nL B cells slots Q pc lo (.ref a :: st) w :=
  fun H locs ls hB h => va_alen cx.1 cx.2.1 hK (hP H locs hB) q0 t0 ha ht (by rw [hn]; rfl) hdg (kk H locs ls hB h)
end CELL
/-- one cell of a world goes out to a call and comes back -/
theorem gj_J.one {D : va_G} {cl : List vw_C} {A : Nat → Prop} {ws : va_W} {b k : Nat} {e e' : va_E} (hk : ws[k]? = some (b, e)) : gj_J D cl A ws [(b, e)] [(b, e')] (ws.set k (b, e')) := by
  refine ⟨fun H hP => fun i q hq => ?_, fun hD => ⟨fun i j x y hi hj _ => ?_, fun i q hq => ?_⟩, fun H H1 hP hD hke _ hP1 _ => ⟨fun i q hq => ?_, hD.set hk⟩⟩
  · cases i with
    | zero => cases hq; exact hP k _ hk
    | succ i => simp at hq
  · cases i with
    | zero => cases j with
      | zero => rfl
      | succ j => simp at hj
    | succ i => simp at hi
  · cases i with
    | zero => cases hq; exact hD.2 k _ hk
    | succ i => simp at hq
  · by_cases hik : i = k
    · subst hik
      rw [List.getElem?_set_self (List.getElem?_eq_some_iff.mp hk).1] at hq
      cases hq
      exact hP1 0 _ rfl
    · rw [List.getElem?_set_ne (Ne.symm hik)] at hq
      have hne : q.1 ≠ b := fun z => hik (hD.1 i k q (b, e) hq hk z)
      refine (hP i q hq).kept (hke q.1 (hP i q hq).lt (fun z => ?_))
      rcases z with ⟨j, e2, hj⟩ | z
      · cases j with
        | zero => cases hj; exact hne rfl
        | succ j => simp at hj
      · have := (hP i q hq).lt
        omega
set_option maxRecDepth 100000 in
set_option maxHeartbeats 4000000 in
theorem c_JA_fill (l : Launch) (D : va_G) (tys : List (ClassId × FieldType)) (t0 : Nat) (cJ : ClassId) (ht : tys[t0]? = some (cJ, .long)) (q n : Nat) (hn : n < 2147483648) (g : Nat → Int64) (v : Int64) (sz : Nat) : MWv l y_JA_fill (wsM y_JA_fill b_JA_fill 5 none) { frames := 0, cells := 0, slots := 0, locals := 0 } D vwK tys [(q, .inl (cJ, n, .inr (.inl g)))] [(q, .inl (cJ, n, .inr (.inl (fun _ => v))))] sz [.ref q, .long v] := by
  refine gj_enterW (own := "java/util/Arrays") (by decide) rfl (Nat.le_of_ble_eq_true rfl) rfl rfl (fun p e s m below meth c cx hr hlk hK hsz => ?_)
  refine gj_iconst (pc := 0) cx d_JA_fill_0 (v := nI 0) (by decide) ?_
  refine gj_istore_n (pc := 1) cx d_JA_fill_1 rfl (lo' := [(3, .int (nI 0)), (0, .ref q), (1, .long v)]) (by decide) rfl ?_
  refine gj_aload_n (pc := 2) cx d_JA_fill_2 rfl (x := q) rfl ?_
  refine gj_alen (pc := 3) (n := n) cx hK gj_wP d_JA_fill_3 0 t0 rfl ht rfl ?_
  refine gj_istore (pc := 4) cx d_JA_fill_4 (lo' := [(4, .int (nI n)), (3, .int (nI 0)), (0, .ref q), (1, .long v)]) (by decide) rfl ?_
  refine gj_arrL (f' := fun j => if j < 0 then v else g j) (ws' := [(q, .inl (cJ, n, .inr (.inl (fun j => if j < 0 then v else g j))))]) 0 rfl (fun j _ => by simp) rfl ?_
  refine gj_forG (G := Gj p l e _ s m _ below meth c _ _ _ _ _) n 6 (fun i => [(4, .int (nI n)), (3, .int (nI i)), (0, .ref q), (1, .long v)]) (fun i => [(q, .inl (cJ, n, .inr (.inl (fun j => if j < i then v else g j))))]) (fun i hi ih => ?_) 0 (Nat.zero_le _)
  refine gj_iload_n (pc := 6) cx d_JA_fill_6 rfl (x := nI i) rfl ?_
  refine gj_iload (pc := 7) cx d_JA_fill_7 (x := nI n) rfl ?_
  refine gj_icmp_geN (pc := 9) cx d_JA_fill_9 (tgt := 22) rfl (by omega) (by omega) (fun hb => ?_) (fun hb => ?_)
  · refine gj_arrL (f' := fun _ => v) 0 rfl (fun j hj => by show (if j < i then v else g j) = v; rw [if_pos (by omega)]) rfl ?_
    exact gj_vretW (pc := 22) cx hr hlk d_JA_fill_22 rfl
  · refine gj_aload_n (pc := 12) cx d_JA_fill_12 rfl (x := q) rfl ?_
    refine gj_iload_n (pc := 13) cx d_JA_fill_13 rfl (x := nI i) rfl ?_
    refine gj_lload_n (pc := 14) cx d_JA_fill_14 rfl (x := v) rfl ?_
    refine gj_last (pc := 15) (i := i) (f := fun j => if j < i then v else g j) (x := v) (ws' := [(q, .inl (cJ, n, .inr (.inl (va_up (fun j => if j < i then v else g j) i v))))]) cx hK d_JA_fill_15 0 t0 rfl ht hb (by omega) rfl ?_
    refine gj_iincN (pc := 16) cx d_JA_fill_16 (k := 1) (d := 1) (lo' := [(3, .int (nI (i + 1))), (4, .int (nI n)), (0, .ref q), (1, .long v)]) rfl (by decide) (by decide) rfl ?_
    refine gj_goto (pc := 19) cx d_JA_fill_19 (tgt := 6) rfl ?_
    refine gj_pick (lo' := [(4, .int (nI n)), (3, .int (nI (i + 1))), (0, .ref q), (1, .long v)]) [1, 0, 2, 3] rfl ?_
    refine gj_arrL (f' := fun j => if j < i + 1 then v else g j) (ws' := [(q, .inl (cJ, n, .inr (.inl (fun j => if j < i + 1 then v else g j))))]) 0 rfl (fun j hj => ?_) rfl (ih hb)
    show (if j = i then v else (if j < i then v else g j)) = _
    by_cases h1 : j = i
    · rw [if_pos h1, if_pos (by omega)]
    · by_cases h2 : j < i
      · rw [if_neg h1, if_pos h2, if_pos (by omega)]
      · rw [if_neg h1, if_neg h2, if_neg (by omega)]
