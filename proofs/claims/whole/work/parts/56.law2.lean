/-! The law's loop -/
section LWL
variable {p : Program} {l : Launch} {e : Env} {s : State} {m : MethodId} {args : Array Value} {below : List Frame} {meth : Method} {c : Code} {Q : State → Prop}
variable {D : va_G} {cI cJ cO : ClassId} {h hN b L : Nat} {xs : Nat → Int32} {ad : Nat → Nat → Nat} {am : Nat → Nat} {n f fa : Nat} {z : Int64} {σ : Nat → NS} {S : RS} {A : Nat → Prop} {H0 : Heap}
set_option maxRecDepth 100000 in
set_option maxHeartbeats 4000000 in
theorem law_switch {i : Nat} (cx : CallFix p m c code 4 s args WT R_L) (hKo : va_K D vwK (tyo cI cJ cO) s) (hKl : va_K D vwK (tyl cI cJ) s) (hA : ∀ q, H0.size ≤ q → A q) (hX : va_X b L xs s H0) (hbl : b < H0.size) (hbA : ¬ A b) (hL : L ≤ 3074) (hi : i + 6 ≤ L) (hS : Sim n f z fa σ S) (kk : ∀ fa σ S, Sim n f z fa σ S → Gj p l e room_1 s m args below meth c 4 (Bw D vwK A H0) 64 14931 Q 787 [(3, .int (nI i)), (2, .ref (am 0)), (1, .ref h), (0, .ref b)] [] (oW cI cJ cO h hN ad n f fa σ ++ rW cI cJ am n f z S)) : Gj p l e room_1 s m args below meth c 4 (Bw D vwK A H0) 64 14931 Q 47 [(3, .int (nI i)), (2, .ref (am 0)), (1, .ref h), (0, .ref b)] [] (oW cI cJ cO h hN ad n f fa σ ++ rW cI cJ am n f z S) := by
  refine gj_aload_n (pc := 47) cx d_L_law_47 rfl (x := b) rfl ?_
  refine gj_iload_n (pc := 48) cx d_L_law_48 rfl (x := nI i) rfl ?_
  refine gj_sld (pc := 49) (i := i) cx hX hbl hbA d_L_law_49 (by omega) (by omega) ?_
  refine gj_bipush (pc := 50) cx d_L_law_50 (v := nI 31) (by decide) ?_
  refine gj_iand (pc := 52) cx d_L_law_52 ?_
  obtain ⟨q, hq, eq⟩ := law_sw (xs i)
  rw [eq]
  match q, hq with
  | 0, _ => exact gj_tabIn (pc := 53) cx d_L_law_53 (tgt := 140) (by decide) (by decide) rfl rfl (law_c0 cx hKo hKl hA hX hbl hbA hL hi hS kk)
  | 1, _ => exact gj_tabIn (pc := 53) cx d_L_law_53 (tgt := 183) (by decide) (by decide) rfl rfl (law_c1 cx hKo hKl hA hX hbl hbA hL hi hS kk)
  | 2, _ => exact gj_tabIn (pc := 53) cx d_L_law_53 (tgt := 206) (by decide) (by decide) rfl rfl (law_c2 cx hKo hKl hA hX hbl hbA hL hi hS kk)
  | 3, _ => exact gj_tabIn (pc := 53) cx d_L_law_53 (tgt := 289) (by decide) (by decide) rfl rfl (law_c3 cx hKo hKl hA hX hbl hbA hL hi hS kk)
  | 4, _ => exact gj_tabIn (pc := 53) cx d_L_law_53 (tgt := 352) (by decide) (by decide) rfl rfl (law_c4 cx hKo hKl hA hX hbl hbA hL hi hS kk)
  | 5, _ => exact gj_tabIn (pc := 53) cx d_L_law_53 (tgt := 375) (by decide) (by decide) rfl rfl (law_c5 cx hKo hKl hA hX hbl hbA hL hi hS kk)
  | 6, _ => exact gj_tabIn (pc := 53) cx d_L_law_53 (tgt := 388) (by decide) (by decide) rfl rfl (law_c6 cx hKo hKl hA hX hbl hbA hL hi hS kk)
  | 7, _ => exact gj_tabIn (pc := 53) cx d_L_law_53 (tgt := 411) (by decide) (by decide) rfl rfl (law_c7 cx hKo hKl hA hX hbl hbA hL hi hS kk)
  | 8, _ => exact gj_tabIn (pc := 53) cx d_L_law_53 (tgt := 434) (by decide) (by decide) rfl rfl (law_c8 cx hKo hKl hA hX hbl hbA hL hi hS kk)
  | 9, _ => exact gj_tabIn (pc := 53) cx d_L_law_53 (tgt := 467) (by decide) (by decide) rfl rfl (law_c9 cx hKo hKl hA hX hbl hbA hL hi hS kk)
  | 10, _ => exact gj_tabIn (pc := 53) cx d_L_law_53 (tgt := 490) (by decide) (by decide) rfl rfl (law_c10 cx hKo hKl hA hX hbl hbA hL hi hS kk)
  | 11, _ => exact gj_tabIn (pc := 53) cx d_L_law_53 (tgt := 544) (by decide) (by decide) rfl rfl (law_c11 cx hKo hKl hA hX hbl hbA hL hi hS kk)
  | 12, _ => exact gj_tabIn (pc := 53) cx d_L_law_53 (tgt := 597) (by decide) (by decide) rfl rfl (law_c12 cx hKo hKl hA hX hbl hbA hL hi hS kk)
  | 13, _ => exact gj_tabIn (pc := 53) cx d_L_law_53 (tgt := 641) (by decide) (by decide) rfl rfl (law_c13 cx hKo hKl hA hX hbl hbA hL hi hS kk)
  | 14, _ => exact gj_tabIn (pc := 53) cx d_L_law_53 (tgt := 674) (by decide) (by decide) rfl rfl (law_c14 cx hKo hKl hA hX hbl hbA hL hi hS kk)
  | 15, _ => exact gj_tabIn (pc := 53) cx d_L_law_53 (tgt := 708) (by decide) (by decide) rfl rfl (law_c15 cx hKo hKl hA hX hbl hbA hL hi hS kk)
  | 16, _ => exact gj_tabIn (pc := 53) cx d_L_law_53 (tgt := 741) (by decide) (by decide) rfl rfl (law_c16 cx hKo hKl hA hX hbl hbA hL hi hS kk)
  | 17, _ => exact gj_tabIn (pc := 53) cx d_L_law_53 (tgt := 764) (by decide) (by decide) rfl rfl (law_c17 cx hKo hKl hA hX hbl hbA hL hi hS kk)
  | q + 18, hq => exact gj_tabOut (pc := 53) cx d_L_law_53 (tgt := 787) (Or.inr (by rw [nI_toInt (by omega)]; omega)) rfl (kk fa σ S hS)
theorem law_loop (cx : CallFix p m c code 4 s args WT R_L) (hKo : va_K D vwK (tyo cI cJ cO) s) (hKl : va_K D vwK (tyl cI cJ) s) (hA : ∀ q, H0.size ≤ q → A q) (hX : va_X b L xs s H0) (hbl : b < H0.size) (hbA : ¬ A b) (hL : L ≤ 3074) (kx : ∀ i fa σ S, Sim n f z fa σ S → Gj p l e room_1 s m args below meth c 4 (Bw D vwK A H0) 64 14931 Q 793 [(3, .int (nI i)), (2, .ref (am 0)), (1, .ref h), (0, .ref b)] [] (oW cI cJ cO h hN ad n f fa σ ++ rW cI cJ am n f z S)) : ∀ (k j : Nat), L ≤ 2 + 6 * j + 6 * k → j ≤ L → ∀ fa σ S, Sim n f z fa σ S → Gj p l e room_1 s m args below meth c 4 (Bw D vwK A H0) 64 14931 Q 38 [(3, .int (nI (2 + 6 * j))), (2, .ref (am 0)), (1, .ref h), (0, .ref b)] [] (oW cI cJ cO h hN ad n f fa σ ++ rW cI cJ am n f z S) := by
  intro k
  induction k with
  | zero =>
    intro j hk hj fa σ S hS
    refine gj_iload_n (pc := 38) cx d_L_law_38 rfl (x := nI (2 + 6 * j)) rfl ?_
    refine gj_aload_n (pc := 39) cx d_L_law_39 rfl (x := b) rfl ?_
    refine gj_slen (pc := 40) cx hX hbl hbA d_L_law_40 ?_
    refine gj_bipush (pc := 41) cx d_L_law_41 (v := nI 6) (by decide) ?_
    refine gj_isub (pc := 43) cx d_L_law_43 ?_
    refine gj_icmp_gt (pc := 44) cx d_L_law_44 (tgt := 793) rfl (fun _ => kx _ fa σ S hS) (fun hh => ?_)
    exfalso
    have := law_i hL (by omega) hh
    omega
  | succ k ih =>
    intro j hk hj fa σ S hS
    refine gj_iload_n (pc := 38) cx d_L_law_38 rfl (x := nI (2 + 6 * j)) rfl ?_
    refine gj_aload_n (pc := 39) cx d_L_law_39 rfl (x := b) rfl ?_
    refine gj_slen (pc := 40) cx hX hbl hbA d_L_law_40 ?_
    refine gj_bipush (pc := 41) cx d_L_law_41 (v := nI 6) (by decide) ?_
    refine gj_isub (pc := 43) cx d_L_law_43 ?_
    refine gj_icmp_gt (pc := 44) cx d_L_law_44 (tgt := 793) rfl (fun _ => kx _ fa σ S hS) (fun hh => ?_)
    have hi := law_i hL (by omega) hh
    refine law_switch cx hKo hKl hA hX hbl hbA hL hi hS (fun fa σ S hS => ?_)
    refine gj_iincN (pc := 787) (a := 2 + 6 * j) (d := 6) cx d_L_law_787 (k := 0) rfl (by decide) (by decide) rfl ?_
    refine gj_goto (pc := 790) cx d_L_law_790 (tgt := 38) rfl ?_
    have := ih (j + 1) (by omega) (by omega) fa σ S hS
    rw [show 2 + 6 * (j + 1) = 2 + 6 * j + 6 by omega] at this
    exact this
end LWL
