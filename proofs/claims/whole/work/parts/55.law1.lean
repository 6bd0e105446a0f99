/-! The law's cases, laid by wip/gen/m_law.py -/
section LWC
variable {p : Program} {l : Launch} {e : Env} {s : State} {m : MethodId} {args : Array Value} {below : List Frame} {meth : Method} {c : Code} {Q : State → Prop}
variable {D : va_G} {cI cJ cO : ClassId} {h hN b L i : Nat} {xs : Nat → Int32} {ad : Nat → Nat → Nat} {am : Nat → Nat} {n f fa : Nat} {z : Int64} {σ : Nat → NS} {S : RS} {A : Nat → Prop} {H0 : Heap}
theorem law_arg {ws : va_W} {R : Room} {cells slots pc k' : Nat} {kz : Int} {lo : List (Nat × Value)} {st : List Value} (cx : CallFix p m c code 4 s args WT R_L) (hX : va_X b L xs s H0) (hbl : b < H0.size) (hbA : ¬ A b) (hL : L ≤ 3074) (d1 : decode code pc = .ok (.aload_n 0, 1)) (d2 : decode code (pc + 1) = .ok (.iload_n 3, 1)) (d3 : decode code (pc + 1 + 1) = .ok (.iconst kz, 1)) (d4 : decode code (pc + 1 + 1 + 1) = .ok (.iadd, 1)) (d5 : decode code (pc + 1 + 1 + 1 + 1) = .ok (.iaload, 1)) (hk : Int32.ofInt kz = nI k') (hlo : lo = [(3, .int (nI i)), (2, .ref (am 0)), (1, .ref h), (0, .ref b)]) (hi : i + k' < L) (kk : Gj p l e R s m args below meth c 4 (Bw D vwK A H0) cells slots Q (pc + 1 + 1 + 1 + 1 + 1) lo (.int (xs (i + k')) :: st) ws) : Gj p l e R s m args below meth c 4 (Bw D vwK A H0) cells slots Q pc lo st ws := by
  subst hlo
  refine gj_aload_n cx d1 rfl (x := b) rfl ?_
  refine gj_iload_n cx d2 rfl (x := nI i) rfl ?_
  refine gj_iconst cx d3 hk ?_
  refine gj_iaddN cx d4 ?_
  exact gj_sld cx hX hbl hbA d5 hi (by omega) kk
set_option maxRecDepth 100000 in
set_option maxHeartbeats 4000000 in
theorem law_c0 (cx : CallFix p m c code 4 s args WT R_L) (hKo : va_K D vwK (tyo cI cJ cO) s) (hKl : va_K D vwK (tyl cI cJ) s) (hA : ∀ q, H0.size ≤ q → A q) (hX : va_X b L xs s H0) (hbl : b < H0.size) (hbA : ¬ A b) (hL : L ≤ 3074) (hi : i + 6 ≤ L) (hS : Sim n f z fa σ S) (kk : ∀ fa σ S, Sim n f z fa σ S → Gj p l e room_1 s m args below meth c 4 (Bw D vwK A H0) 64 14931 Q 787 [(3, .int (nI i)), (2, .ref (am 0)), (1, .ref h), (0, .ref b)] [] (oW cI cJ cO h hN ad n f fa σ ++ rW cI cJ am n f z S)) : Gj p l e room_1 s m args below meth c 4 (Bw D vwK A H0) 64 14931 Q 140 [(3, .int (nI i)), (2, .ref (am 0)), (1, .ref h), (0, .ref b)] [] (oW cI cJ cO h hN ad n f fa σ ++ rW cI cJ am n f z S) := by
  obtain ⟨hn, hf, hfa, hs, hiv⟩ := sim_B n f z fa σ S hS
  refine gj_aload_n (pc := 140) cx d_L_law_140 rfl (x := h) rfl ?_
  refine law_arg (pc := 141) (i := i) (k' := 1) cx hX hbl hbA hL d_L_law_141 d_L_law_142 d_L_law_143 d_L_law_144 d_L_law_145 (by decide) rfl (by omega) ?_
  refine law_arg (pc := 146) (i := i) (k' := 2) cx hX hbl hbA hL d_L_law_146 d_L_law_147 d_L_law_148 d_L_law_149 d_L_law_150 (by decide) rfl (by omega) ?_
  refine law_arg (pc := 151) (i := i) (k' := 3) cx hX hbl hbA hL d_L_law_151 d_L_law_152 d_L_law_153 d_L_law_154 d_L_law_155 (by decide) rfl (by omega) ?_
  refine gj_callVWi (pc := 156) (As := [.int (xs (i + 1)), .int (xs (i + 2)), .int (xs (i + 3))]) (rest := []) (ws' := oW cI cJ cO h hN ad n f fa (eSubmit n σ (xs (i + 1)) (xs (i + 2)) (xs (i + 3))).2 ++ rW cI cJ am n f z S) cx hKo hA (fun sz => c_E_submit l D cI cJ cO h hN ad n f fa σ (xs (i + 1)) (xs (i + 2)) (xs (i + 3)) hn hs sz) (cwV 3 cx.2.2.2.2 (good_VL wm_70 wm_67 wm_68 wm_69 wm_1) rfl rfl rfl (by decide +kernel) ⟨Nat.le_of_ble_eq_true rfl, Nat.le_of_ble_eq_true rfl⟩) (gj_J.left (by rw [oW_fst, oW_fst])) 0 1 rfl rfl rfl rfl rfl (Nat.le_of_ble_eq_true rfl) d_L_law_156 ⟨Nat.le_of_ble_eq_true rfl, Nat.le_of_ble_eq_true rfl⟩ ?_
  refine gj_aload_n (pc := 159) cx d_L_law_159 rfl (x := am 0) rfl ?_
  refine law_arg (pc := 160) (i := i) (k' := 1) cx hX hbl hbA hL d_L_law_160 d_L_law_161 d_L_law_162 d_L_law_163 d_L_law_164 (by decide) rfl (by omega) ?_
  refine law_arg (pc := 165) (i := i) (k' := 2) cx hX hbl hbA hL d_L_law_165 d_L_law_166 d_L_law_167 d_L_law_168 d_L_law_169 (by decide) rfl (by omega) ?_
  refine law_arg (pc := 170) (i := i) (k' := 3) cx hX hbl hbA hL d_L_law_170 d_L_law_171 d_L_law_172 d_L_law_173 d_L_law_174 (by decide) rfl (by omega) ?_
  refine gj_callVWi (pc := 175) (As := [.int (xs (i + 1)), .int (xs (i + 2)), .int (xs (i + 3))]) (rest := [.int (eSubmit n σ (xs (i + 1)) (xs (i + 2)) (xs (i + 3))).1]) (ws' := oW cI cJ cO h hN ad n f fa (eSubmit n σ (xs (i + 1)) (xs (i + 2)) (xs (i + 3))).2 ++ rW cI cJ am n f z (rSubmit S n z (xs (i + 1)) (xs (i + 2)) (xs (i + 3))).2) cx hKl hA (fun sz => c_M_submit l D cI cJ am n f z S (xs (i + 1)) (xs (i + 2)) (xs (i + 3)) hn hiv.1 sz) (cwV 3 cx.2.2.2.2 (good_VL wm_476 wm_473 wm_474 wm_475 wm_5) rfl rfl rfl (by decide +kernel) ⟨Nat.le_of_ble_eq_true rfl, Nat.le_of_ble_eq_true rfl⟩) gj_J.app 0 2 rfl rfl rfl rfl rfl (Nat.le_of_ble_eq_true rfl) d_L_law_175 ⟨Nat.le_of_ble_eq_true rfl, Nat.le_of_ble_eq_true rfl⟩ ?_
  exact gj_icmp_eq (pc := 178) cx d_L_law_178 (tgt := 787) rfl (fun _ => kk _ _ _ (sim_submit (xs (i + 1)) (xs (i + 2)) (xs (i + 3)) hS).2) (fun hne => absurd (sim_submit (xs (i + 1)) (xs (i + 2)) (xs (i + 3)) hS).1 hne)
set_option maxRecDepth 100000 in
set_option maxHeartbeats 4000000 in
theorem law_c5 (cx : CallFix p m c code 4 s args WT R_L) (hKo : va_K D vwK (tyo cI cJ cO) s) (hKl : va_K D vwK (tyl cI cJ) s) (hA : ∀ q, H0.size ≤ q → A q) (hX : va_X b L xs s H0) (hbl : b < H0.size) (hbA : ¬ A b) (hL : L ≤ 3074) (hi : i + 6 ≤ L) (hS : Sim n f z fa σ S) (kk : ∀ fa σ S, Sim n f z fa σ S → Gj p l e room_1 s m args below meth c 4 (Bw D vwK A H0) 64 14931 Q 787 [(3, .int (nI i)), (2, .ref (am 0)), (1, .ref h), (0, .ref b)] [] (oW cI cJ cO h hN ad n f fa σ ++ rW cI cJ am n f z S)) : Gj p l e room_1 s m args below meth c 4 (Bw D vwK A H0) 64 14931 Q 375 [(3, .int (nI i)), (2, .ref (am 0)), (1, .ref h), (0, .ref b)] [] (oW cI cJ cO h hN ad n f fa σ ++ rW cI cJ am n f z S) := by
  obtain ⟨hn, hf, hfa, hs, hiv⟩ := sim_B n f z fa σ S hS
  refine gj_aload_n (pc := 375) cx d_L_law_375 rfl (x := h) rfl ?_
  refine gj_callVRi (pc := 376) (As := []) (rest := []) cx hKo (c_E_pending l D cI cJ cO h hN ad n f fa σ  hn hs) (cwV 0 cx.2.2.2.2 (good_VL wm_237 wm_234 wm_235 wm_236 wm_1) rfl rfl rfl (by decide +kernel) ⟨Nat.le_of_ble_eq_true rfl, Nat.le_of_ble_eq_true rfl⟩) (fun H locs hB => gj_mem hB.1 (fun q hq => List.mem_append_left _ hq)) 0 1 rfl rfl rfl rfl rfl (Nat.le_of_ble_eq_true rfl) d_L_law_376 ⟨Nat.le_of_ble_eq_true rfl, Nat.le_of_ble_eq_true rfl⟩ ?_
  refine gj_aload_n (pc := 379) cx d_L_law_379 rfl (x := am 0) rfl ?_
  refine gj_callVRi (pc := 380) (As := []) (rest := [.int (nI (ePend n σ))]) cx hKl (c_M_pending l D cI cJ am n f z S  hn hiv.1) (cwV 0 cx.2.2.2.2 (good_VL wm_374 wm_371 wm_372 wm_373 wm_5) rfl rfl rfl (by decide +kernel) ⟨Nat.le_of_ble_eq_true rfl, Nat.le_of_ble_eq_true rfl⟩) (fun H locs hB => gj_mem hB.1 (fun q hq => List.mem_append_right _ hq)) 0 2 rfl rfl rfl rfl rfl (Nat.le_of_ble_eq_true rfl) d_L_law_380 ⟨Nat.le_of_ble_eq_true rfl, Nat.le_of_ble_eq_true rfl⟩ ?_
  exact gj_icmp_eq (pc := 383) cx d_L_law_383 (tgt := 787) rfl (fun _ => kk _ _ _ hS) (fun hne => absurd (congrArg nI (sim_pend hS)) hne)
set_option maxRecDepth 100000 in
set_option maxHeartbeats 4000000 in
theorem law_c10 (cx : CallFix p m c code 4 s args WT R_L) (hKo : va_K D vwK (tyo cI cJ cO) s) (hKl : va_K D vwK (tyl cI cJ) s) (hA : ∀ q, H0.size ≤ q → A q) (hX : va_X b L xs s H0) (hbl : b < H0.size) (hbA : ¬ A b) (hL : L ≤ 3074) (hi : i + 6 ≤ L) (hS : Sim n f z fa σ S) (kk : ∀ fa σ S, Sim n f z fa σ S → Gj p l e room_1 s m args below meth c 4 (Bw D vwK A H0) 64 14931 Q 787 [(3, .int (nI i)), (2, .ref (am 0)), (1, .ref h), (0, .ref b)] [] (oW cI cJ cO h hN ad n f fa σ ++ rW cI cJ am n f z S)) : Gj p l e room_1 s m args below meth c 4 (Bw D vwK A H0) 64 14931 Q 490 [(3, .int (nI i)), (2, .ref (am 0)), (1, .ref h), (0, .ref b)] [] (oW cI cJ cO h hN ad n f fa σ ++ rW cI cJ am n f z S) := by
  obtain ⟨hn, hf, hfa, hs, hiv⟩ := sim_B n f z fa σ S hS
  refine gj_aload_n (pc := 490) cx d_L_law_490 rfl (x := h) rfl ?_
  refine law_arg (pc := 491) (i := i) (k' := 1) cx hX hbl hbA hL d_L_law_491 d_L_law_492 d_L_law_493 d_L_law_494 d_L_law_495 (by decide) rfl (by omega) ?_
  refine law_arg (pc := 496) (i := i) (k' := 2) cx hX hbl hbA hL d_L_law_496 d_L_law_497 d_L_law_498 d_L_law_499 d_L_law_500 (by decide) rfl (by omega) ?_
  refine law_arg (pc := 501) (i := i) (k' := 3) cx hX hbl hbA hL d_L_law_501 d_L_law_502 d_L_law_503 d_L_law_504 d_L_law_505 (by decide) rfl (by omega) ?_
  refine law_arg (pc := 506) (i := i) (k' := 4) cx hX hbl hbA hL d_L_law_506 d_L_law_507 d_L_law_508 d_L_law_509 d_L_law_510 (by decide) rfl (by omega) ?_
  refine gj_callVRl (pc := 511) (As := [.int (xs (i + 1)), .int (xs (i + 2)), .int (xs (i + 3)), .int (xs (i + 4))]) (rest := []) cx hKo (c_E_sent l D cI cJ cO h hN ad n f fa σ (xs (i + 1)) (xs (i + 2)) (xs (i + 3)) (xs (i + 4)) hn hs) (cwV 4 cx.2.2.2.2 (good_VL wm_276 wm_273 wm_274 wm_275 wm_1) rfl rfl rfl (by decide +kernel) ⟨Nat.le_of_ble_eq_true rfl, Nat.le_of_ble_eq_true rfl⟩) (fun H locs hB => gj_mem hB.1 (fun q hq => List.mem_append_left _ hq)) 0 1 rfl rfl rfl rfl rfl (Nat.le_of_ble_eq_true rfl) d_L_law_511 ⟨Nat.le_of_ble_eq_true rfl, Nat.le_of_ble_eq_true rfl⟩ ?_
  refine gj_aload_n (pc := 514) cx d_L_law_514 rfl (x := am 0) rfl ?_
  refine law_arg (pc := 515) (i := i) (k' := 1) cx hX hbl hbA hL d_L_law_515 d_L_law_516 d_L_law_517 d_L_law_518 d_L_law_519 (by decide) rfl (by omega) ?_
  refine law_arg (pc := 520) (i := i) (k' := 2) cx hX hbl hbA hL d_L_law_520 d_L_law_521 d_L_law_522 d_L_law_523 d_L_law_524 (by decide) rfl (by omega) ?_
  refine law_arg (pc := 525) (i := i) (k' := 3) cx hX hbl hbA hL d_L_law_525 d_L_law_526 d_L_law_527 d_L_law_528 d_L_law_529 (by decide) rfl (by omega) ?_
  refine law_arg (pc := 530) (i := i) (k' := 4) cx hX hbl hbA hL d_L_law_530 d_L_law_531 d_L_law_532 d_L_law_533 d_L_law_534 (by decide) rfl (by omega) ?_
  refine gj_callVRl (pc := 535) (As := [.int (xs (i + 1)), .int (xs (i + 2)), .int (xs (i + 3)), .int (xs (i + 4))]) (rest := [.long (eSent n σ (xs (i + 1)) (xs (i + 2)) (xs (i + 3)) (xs (i + 4)))]) cx hKl (c_M_sent l D cI cJ am n f z S (xs (i + 1)) (xs (i + 2)) (xs (i + 3)) (xs (i + 4)) hn hiv.1) (cwV 4 cx.2.2.2.2 (good_VL wm_501 wm_498 wm_499 wm_500 wm_5) rfl rfl rfl (by decide +kernel) ⟨Nat.le_of_ble_eq_true rfl, Nat.le_of_ble_eq_true rfl⟩) (fun H locs hB => gj_mem hB.1 (fun q hq => List.mem_append_right _ hq)) 0 2 rfl rfl rfl rfl rfl (Nat.le_of_ble_eq_true rfl) d_L_law_535 ⟨Nat.le_of_ble_eq_true rfl, Nat.le_of_ble_eq_true rfl⟩ ?_
  exact gj_lcmp_eq (pc := 538) cx d_L_law_538 d_L_law_539 (tgt := 787) rfl (fun _ => kk _ _ _ hS) (fun hne => absurd (sim_sent (xs (i + 1)) (xs (i + 2)) (xs (i + 3)) (xs (i + 4)) hS) hne)
end LWC
