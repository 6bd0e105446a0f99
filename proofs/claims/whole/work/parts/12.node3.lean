/-! Contracts of Node, third part, laid by wip/gen/m_node.py -/
set_option maxRecDepth 100000 in
set_option maxHeartbeats 4000000 in
theorem c_N_freeWhatIsMarked (l : Launch) (D : va_G) (cI cJ : ClassId) (a : Nat → Nat) (me n f : Nat) (u : NS)  (hok : nOk u) (hmk : nSa u 140 = -1 ∨ ∀ c, c < n → digN (nSa u 140) c ≤ 5) (hn : n ≤ 7) (hf : f ≤ 7) (sz : Nat) : MWv l y_N_freeWhatIsMarked (wsM y_N_freeWhatIsMarked b_N_freeWhatIsMarked 6 none) { frames := 2, cells := 0, slots := 0, locals := 44 } D vwK (tyl cI cJ) (nW cI cJ a me n f u) (nW cI cJ a me n f (nFree u n f)) sz [.ref (a 0)] := by
  obtain ⟨hco, hfu, hsu, hcn, hfr⟩ := id hok
  refine gj_enterW (own := R_N) (by decide) rfl (Nat.le_of_ble_eq_true rfl) rfl rfl (fun p e s m below meth c cx hr hlk hK hsz => ?_)
  have hA : ∀ q, s.heap.size ≤ q → va_A (nW cI cJ a me n f u) sz q := fun q h => Or.inr (hsz ▸ h)
  refine gj_aload_n (pc := 0) cx d_N_freeWhatIsMarked_0 rfl (x := a 0) rfl ?_
  refine gj_get (pc := 1) (ci := 0) (C := R_N) (T := T_N) (N := 12) (v := .ref (a 1)) cx hK gj_wP in_N d_N_freeWhatIsMarked_1 0 rfl rfl 6 (by decide) (in_WT wm_39) rfl ?_
  refine gj_sipush (pc := 4) cx d_N_freeWhatIsMarked_4 (v := nI 140) (by decide) ?_
  refine gj_lald (pc := 7) (i := 140) (f := nSa u) cx hK gj_wP d_N_freeWhatIsMarked_7 1 1 rfl rfl (by omega) (by decide) ?_
  refine gj_lstore_n (pc := 8) cx d_N_freeWhatIsMarked_8 rfl (lo' := [(1, .long (nSa u 140)), (0, .ref (a 0))]) (by decide) rfl ?_
  refine gj_lload_n (pc := 9) cx d_N_freeWhatIsMarked_9 rfl (x := nSa u 140) rfl ?_
  refine gj_ldc2 (pc := 10) cx d_N_freeWhatIsMarked_10 (v := (-1)) (in_WT wm_29) ?_
  refine gj_lcmp_eq (pc := 13) cx d_N_freeWhatIsMarked_13 d_N_freeWhatIsMarked_14 (tgt := 36) rfl (fun hb1 => ?_) (fun hb1 => ?_)
  · exact gj_vretW (pc := 36) cx hr hlk d_N_freeWhatIsMarked_36 (by rw [show nFree u n f = u from if_pos (Or.inl hb1)])
  · refine gj_aload_n (pc := 17) cx d_N_freeWhatIsMarked_17 rfl (x := a 0) rfl ?_
    refine gj_sipush (pc := 18) cx d_N_freeWhatIsMarked_18 (v := nI 140) (by decide) ?_
    refine gj_lload_n (pc := 21) cx d_N_freeWhatIsMarked_21 rfl (x := nSa u 140) rfl ?_
    refine gj_callVRi (pc := 22) (As := [.int (nI 140), .long (nSa u 140)]) (rest := []) (v := nI (nTellOf u 140 (nSa u 140) n)) cx hK (c_N_countTellersOf l D cI cJ a me n f u 140 (nSa u 140) (by omega) (by omega)) (cwV 2 cx.2.2.2.2 (good_V wm_187 wm_185 wm_186 wm_544 wm_3) rfl rfl rfl (by decide +kernel) ⟨Nat.le_of_ble_eq_true rfl, Nat.le_of_ble_eq_true rfl⟩) gj_wP 0 0 rfl rfl rfl rfl rfl (Nat.le_of_ble_eq_true rfl) d_N_freeWhatIsMarked_22 ⟨Nat.zero_le _, Nat.zero_le _⟩ ?_
    have hv2 := nTellOf_lt u 140 (nSa u 140) n
    refine gj_iconst (pc := 25) cx d_N_freeWhatIsMarked_25 (v := nI 2) (by decide) ?_
    refine gj_aload_n (pc := 26) cx d_N_freeWhatIsMarked_26 rfl (x := a 0) rfl ?_
    refine gj_get (pc := 27) (ci := 0) (C := R_N) (T := T_N) (N := 12) (v := .int (nI f)) cx hK gj_wP in_N d_N_freeWhatIsMarked_27 0 rfl rfl 2 (by decide) (in_WT wm_35) rfl ?_
    refine gj_imulN (pc := 30) cx d_N_freeWhatIsMarked_30 ?_
    refine gj_iconst (pc := 31) cx d_N_freeWhatIsMarked_31 (v := nI 1) (by decide) ?_
    refine gj_iaddN (pc := 32) cx d_N_freeWhatIsMarked_32 ?_
    refine gj_icmp_geN (pc := 33) cx d_N_freeWhatIsMarked_33 (tgt := 37) rfl (by omega) (by omega) (fun hb3 => ?_) (fun hb3 => ?_)
    · have hmk2 := hmk.resolve_left hb1
      refine gj_iconst (pc := 37) cx d_N_freeWhatIsMarked_37 (v := nI 0) (by decide) ?_
      refine gj_istore_n (pc := 38) cx d_N_freeWhatIsMarked_38 rfl (lo' := [(3, .int (nI 0)), (1, .long (nSa u 140)), (0, .ref (a 0))]) (by decide) rfl ?_
      refine gj_pick (lo' := [(0, .ref (a 0)), (1, .long (nSa u 140)), (3, .int (nI 0))]) [2, 1, 0] rfl ?_
      refine gj_forG (G := Gj p l e _ s m _ below meth c _ _ _ _ _) n 39 (fun b => [(0, .ref (a 0)), (1, .long (nSa u 140)), (3, .int (nI b))]) (fun b => nW cI cJ a me n f (nFreeTo n (nSa u 140) b u)) (fun b hb ihb => ?_) 0 (by omega)
      obtain ⟨x, hx⟩ : ∃ x, x = nFreeTo n (nSa u 140) b u := ⟨_, rfl⟩
      rw [← hx]
      have hokx : nOk x := hx ▸ nOk_freeTo hok b (fun c hc => hmk2 c (by omega))
      obtain ⟨hcox, hfux, hsux, hcnx, hfrx⟩ := id hokx
      refine gj_iload_n (pc := 39) cx d_N_freeWhatIsMarked_39 rfl (x := nI b) rfl ?_
      refine gj_aload_n (pc := 40) cx d_N_freeWhatIsMarked_40 rfl (x := a 0) rfl ?_
      refine gj_get (pc := 41) (ci := 0) (C := R_N) (T := T_N) (N := 12) (v := .int (nI n)) cx hK gj_wP in_N d_N_freeWhatIsMarked_41 0 rfl rfl 1 (by decide) (in_WT wm_34) rfl ?_
      refine gj_icmp_geN (pc := 44) cx d_N_freeWhatIsMarked_44 (tgt := 112) rfl (by omega) (by omega) (fun hb4 => ?_) (fun hb4 => ?_)
      · exact gj_vretW (pc := 112) cx hr hlk d_N_freeWhatIsMarked_112 (by rw [show nFree u n f = nFreeTo n (nSa u 140) n u from if_neg (fun z => z.elim hb1 (fun z => by omega)), hx, show b = n from (by omega)])
      · have hd5 := hmk2 b (by omega)
        refine gj_lload_n (pc := 47) cx d_N_freeWhatIsMarked_47 rfl (x := nSa u 140) rfl ?_
        refine gj_iload_n (pc := 48) cx d_N_freeWhatIsMarked_48 rfl (x := nI b) rfl ?_
        refine gj_callSRi (pc := 49) (As := [.long (nSa u 140), .int (nI b)]) (rest := []) (v := nI (digN (nSa u 140) b)) cx hK (c_P_digit l D (tyl cI cJ) (nSa u 140) b (by omega)) (va_cwS 2 cx.2.2.2.2 (good_S wm_151 wm_188 wm_150 wm_7) rfl rfl rfl (by decide +kernel) ⟨Nat.le_of_ble_eq_true rfl, Nat.le_of_ble_eq_true rfl⟩) (fun _ _ _ => gj_P0) rfl rfl (Nat.le_of_ble_eq_true rfl) d_N_freeWhatIsMarked_49 ⟨Nat.zero_le _, Nat.zero_le _⟩ ?_
        have hv5 := digN_lt (nSa u 140) b
        refine gj_istore (pc := 52) cx d_N_freeWhatIsMarked_52 (lo' := [(4, .int (nI (digN (nSa u 140) b))), (0, .ref (a 0)), (1, .long (nSa u 140)), (3, .int (nI b))]) (by decide) rfl ?_
        refine gj_aload_n (pc := 54) cx d_N_freeWhatIsMarked_54 rfl (x := a 0) rfl ?_
        refine gj_get (pc := 55) (ci := 0) (C := R_N) (T := T_N) (N := 12) (v := .ref (a 3)) cx hK gj_wP in_N d_N_freeWhatIsMarked_55 0 rfl rfl 8 (by decide) (in_WT wm_41) rfl ?_
        refine gj_iload_n (pc := 58) cx d_N_freeWhatIsMarked_58 rfl (x := nI b) rfl ?_
        refine gj_ialdN (pc := 59) (i := b) (f := nFr x) cx hK gj_wP d_N_freeWhatIsMarked_59 3 0 rfl rfl (by omega) (by decide) ?_
        have hv6 := hfrx b
        refine gj_iconst (pc := 60) cx d_N_freeWhatIsMarked_60 (v := nI 1) (by decide) ?_
        refine gj_iaddN (pc := 61) cx d_N_freeWhatIsMarked_61 ?_
        refine gj_istore (pc := 62) cx d_N_freeWhatIsMarked_62 (lo' := [(5, .int (nI ((nFr x b) + 1))), (4, .int (nI (digN (nSa u 140) b))), (0, .ref (a 0)), (1, .long (nSa u 140)), (3, .int (nI b))]) (by decide) rfl ?_
        refine gj_pick (lo' := [(0, .ref (a 0)), (1, .long (nSa u 140)), (3, .int (nI b)), (4, .int (nI (digN (nSa u 140) b))), (5, .int (nI ((nFr x b) + 1)))]) [2, 3, 4, 1, 0] rfl ?_
        refine gj_forG (G := Gj p l e _ s m _ below meth c _ _ _ _ _) (digN (nSa u 140) b - nFr x b) 64 (fun j => [(0, .ref (a 0)), (1, .long (nSa u 140)), (3, .int (nI b)), (4, .int (nI (digN (nSa u 140) b))), (5, .int (nI (nFr x b + 1 + j)))]) (fun j => nW cI cJ a me n f (nForgets n b (nFr x b) j x)) (fun j hj ihj => ?_) 0 (by omega)
        refine gj_iload (pc := 64) cx d_N_freeWhatIsMarked_64 (x := nI (nFr x b + 1 + j)) rfl ?_
        refine gj_iload (pc := 66) cx d_N_freeWhatIsMarked_66 (x := nI (digN (nSa u 140) b)) rfl ?_
        refine gj_icmp_gtN (pc := 68) cx d_N_freeWhatIsMarked_68 (tgt := 89) rfl (by omega) (by omega) (fun hb7 => ?_) (fun hb7 => ?_)
        · have hj : j = digN (nSa u 140) b - nFr x b := by omega
          subst hj
          refine gj_aload_n (pc := 89) cx d_N_freeWhatIsMarked_89 rfl (x := a 0) rfl ?_
          refine gj_get (pc := 90) (ci := 0) (C := R_N) (T := T_N) (N := 12) (v := .ref (a 3)) cx hK gj_wP in_N d_N_freeWhatIsMarked_90 0 rfl rfl 8 (by decide) (in_WT wm_41) rfl ?_
          refine gj_iload_n (pc := 93) cx d_N_freeWhatIsMarked_93 rfl (x := nI b) rfl ?_
          refine gj_aload_n (pc := 94) cx d_N_freeWhatIsMarked_94 rfl (x := a 0) rfl ?_
          refine gj_get (pc := 95) (ci := 0) (C := R_N) (T := T_N) (N := 12) (v := .ref (a 3)) cx hK gj_wP in_N d_N_freeWhatIsMarked_95 0 rfl rfl 8 (by decide) (in_WT wm_41) rfl ?_
          refine gj_iload_n (pc := 98) cx d_N_freeWhatIsMarked_98 rfl (x := nI b) rfl ?_
          refine gj_ialdN (pc := 99) (i := b) (f := nFr (nForgets n b (nFr x b) (digN (nSa u 140) b - nFr x b) x)) cx hK gj_wP d_N_freeWhatIsMarked_99 3 0 rfl rfl (by omega) (by decide) ?_
          refine gj_toi (y := nI (nFr x b)) (congrArg nI (congrFun (nForgets_fr _ _) b)) ?_
          refine gj_iload (pc := 100) cx d_N_freeWhatIsMarked_100 (x := nI (digN (nSa u 140) b)) rfl ?_
          refine gj_mmax (pc := 102) cx d_N_freeWhatIsMarked_102 (in_WT wm_115) (in_WT wm_21) (in_WT wm_2) (in_WT wm_22) (Nat.le_of_ble_eq_true rfl) (Nat.le_of_ble_eq_true rfl) (Nat.zero_le _) (Nat.zero_le _) ?_
          refine gj_toi (y := nI (max (nFr x b) (digN (nSa u 140) b))) (max_nI (by omega) (by omega)) ?_
          refine gj_iastN (pc := 105) (i := b) (f := nFr (nForgets n b (nFr x b) (digN (nSa u 140) b - nFr x b) x)) (x := max (nFr x b) (digN (nSa u 140) b)) (ws' := nW cI cJ a me n f (nCo (nForgets n b (nFr x b) (digN (nSa u 140) b - nFr x b) x), nFu (nForgets n b (nFr x b) (digN (nSa u 140) b - nFr x b) x), nSu (nForgets n b (nFr x b) (digN (nSa u 140) b - nFr x b) x), nSa (nForgets n b (nFr x b) (digN (nSa u 140) b - nFr x b) x), nCn (nForgets n b (nFr x b) (digN (nSa u 140) b - nFr x b) x), va_up (nFr (nForgets n b (nFr x b) (digN (nSa u 140) b - nFr x b) x)) b (max (nFr x b) (digN (nSa u 140) b)), nBa (nForgets n b (nFr x b) (digN (nSa u 140) b - nFr x b) x), nTo (nForgets n b (nFr x b) (digN (nSa u 140) b - nFr x b) x), nAc (nForgets n b (nFr x b) (digN (nSa u 140) b - nFr x b) x))) cx hK d_N_freeWhatIsMarked_105 3 0 rfl rfl (by omega) (by decide) rfl ?_
          refine gj_iincN (pc := 106) cx d_N_freeWhatIsMarked_106 (k := 2) (d := 1) (lo' := [(3, .int (nI (b + 1))), (0, .ref (a 0)), (1, .long (nSa u 140)), (4, .int (nI (digN (nSa u 140) b))), (5, .int (nI (nFr x b + 1 + (digN (nSa u 140) b - nFr x b))))]) rfl (by decide) (by decide) rfl ?_
          refine gj_goto (pc := 109) cx d_N_freeWhatIsMarked_109 (tgt := 39) rfl ?_
          refine gj_pick (lo' := [(0, .ref (a 0)), (1, .long (nSa u 140)), (3, .int (nI (b + 1)))]) [1, 2, 0] rfl ?_
          exact gj_eq rfl (rfl) rfl (by subst hx; rfl) (ihb (by omega))
        · refine gj_aload_n (pc := 71) cx d_N_freeWhatIsMarked_71 rfl (x := a 0) rfl ?_
          refine gj_iload_n (pc := 72) cx d_N_freeWhatIsMarked_72 rfl (x := nI b) rfl ?_
          refine gj_iconst (pc := 73) cx d_N_freeWhatIsMarked_73 (v := nI 5) (by decide) ?_
          refine gj_imulN (pc := 74) cx d_N_freeWhatIsMarked_74 ?_
          refine gj_iload (pc := 75) cx d_N_freeWhatIsMarked_75 (x := nI (nFr x b + 1 + j)) rfl ?_
          refine gj_iaddN (pc := 77) cx d_N_freeWhatIsMarked_77 ?_
          refine gj_iconst (pc := 78) cx d_N_freeWhatIsMarked_78 (v := nI 1) (by decide) ?_
          refine gj_isubN (pc := 79) cx d_N_freeWhatIsMarked_79 (by omega) ?_
          refine gj_toi (y := nI (b * 5 + (nFr x b + j))) (congrArg nI (by omega)) ?_
          refine gj_callVWv (pc := 80) (As := [.int (nI (b * 5 + (nFr x b + j)))]) (rest := []) (ws' := nW cI cJ a me n f (nForget (nForgets n b (nFr x b) j x) n (b * 5 + (nFr x b + j)))) cx hK hA (fun sz => c_N_forget l D cI cJ a me n f (nForgets n b (nFr x b) j x) (b * 5 + (nFr x b + j)) (by omega) (by omega) sz) (cwV 1 cx.2.2.2.2 (good_V wm_191 wm_189 wm_190 wm_545 wm_3) rfl rfl rfl (by decide +kernel) ⟨Nat.le_of_ble_eq_true rfl, Nat.le_of_ble_eq_true rfl⟩) gj_J.self 0 0 rfl rfl rfl rfl rfl (Nat.le_of_ble_eq_true rfl) d_N_freeWhatIsMarked_80 ⟨Nat.zero_le _, Nat.zero_le _⟩ ?_
          refine gj_iincN (pc := 83) cx d_N_freeWhatIsMarked_83 (k := 4) (d := 1) (lo' := [(5, .int (nI ((nFr x b + 1 + j) + 1))), (0, .ref (a 0)), (1, .long (nSa u 140)), (3, .int (nI b)), (4, .int (nI (digN (nSa u 140) b)))]) rfl (by decide) (by decide) rfl ?_
          refine gj_goto (pc := 86) cx d_N_freeWhatIsMarked_86 (tgt := 64) rfl ?_
          refine gj_pick (lo' := [(0, .ref (a 0)), (1, .long (nSa u 140)), (3, .int (nI b)), (4, .int (nI (digN (nSa u 140) b))), (5, .int (nI ((nFr x b + 1 + j) + 1)))]) [1, 2, 3, 4, 0] rfl ?_
          exact gj_eq rfl (rfl) rfl (rfl) (ihj (by omega))
    · exact gj_vretW (pc := 36) cx hr hlk d_N_freeWhatIsMarked_36 (by rw [show nFree u n f = u from if_pos (Or.inr hb3)])

set_option maxRecDepth 100000 in
set_option maxHeartbeats 4000000 in
theorem c_N_take (l : Launch) (D : va_G) (cI cJ : ClassId) (a : Nat → Nat) (me n f : Nat) (u : NS) (t : Nat) (y : Nat) (pp : Int64) (hok : nOk u) (hac : ∀ j, j < 35 → nAc u j ≠ -1 → payN (nAc u j) < n) (hmk : nSa u 140 = -1 ∨ ∀ c, c < n → digN (nSa u 140) c ≤ 5) (hn : n ≤ 7) (hf : f ≤ 7) (ht : t < 141) (hy : y < 7) (hpp : t = 140 ∨ payN pp < n) (sz : Nat) : MWi l y_N_take (wsM y_N_take b_N_take 7 (some .int)) { frames := 4, cells := 0, slots := 0, locals := 90 } D vwK (tyl cI cJ) (nW cI cJ a me n f u) (nW cI cJ a me n f ((nTake u n f t y pp).2)) sz [.ref (a 0), .int (nI t), .int (nI y), .long pp] ((nTake u n f t y pp).1) := by
  obtain ⟨hco, hfu, hsu, hcn, hfr⟩ := id hok
  refine gj_enterW (own := R_N) (by decide) rfl (Nat.le_of_ble_eq_true rfl) rfl rfl (fun p e s m below meth c cx hr hlk hK hsz => ?_)
  have hA : ∀ q, s.heap.size ≤ q → va_A (nW cI cJ a me n f u) sz q := fun q h => Or.inr (hsz ▸ h)
  refine gj_iload_n (pc := 0) cx d_N_take_0 rfl (x := nI t) rfl ?_
  refine gj_callSRi (pc := 1) (As := [.int (nI t)]) (rest := []) (v := nI (t / 35)) cx hK (c_T_kind l D (tyl cI cJ) t (by omega)) (va_cwS 1 cx.2.2.2.2 (good_S wm_169 wm_167 wm_168 wm_6) rfl rfl rfl (by decide +kernel) ⟨Nat.le_of_ble_eq_true rfl, Nat.le_of_ble_eq_true rfl⟩) (fun _ _ _ => gj_P0) rfl rfl (Nat.le_of_ble_eq_true rfl) d_N_take_1 ⟨Nat.zero_le _, Nat.zero_le _⟩ ?_
  refine gj_istore (pc := 4) cx d_N_take_4 (lo' := [(5, .int (nI (t / 35))), (0, .ref (a 0)), (1, .int (nI t)), (2, .int (nI y)), (3, .long pp)]) (by decide) rfl ?_
  refine gj_iload_n (pc := 6) cx d_N_take_6 rfl (x := nI t) rfl ?_
  refine gj_callSRi (pc := 7) (As := [.int (nI t)]) (rest := []) (v := nI (t % 35)) cx hK (c_T_instance l D (tyl cI cJ) t (by omega)) (va_cwS 1 cx.2.2.2.2 (good_S wm_175 wm_173 wm_174 wm_6) rfl rfl rfl (by decide +kernel) ⟨Nat.le_of_ble_eq_true rfl, Nat.le_of_ble_eq_true rfl⟩) (fun _ _ _ => gj_P0) rfl rfl (Nat.le_of_ble_eq_true rfl) d_N_take_7 ⟨Nat.zero_le _, Nat.zero_le _⟩ ?_
  refine gj_istore (pc := 10) cx d_N_take_10 (lo' := [(6, .int (nI (t % 35))), (5, .int (nI (t / 35))), (0, .ref (a 0)), (1, .int (nI t)), (2, .int (nI y)), (3, .long pp)]) (by decide) rfl ?_
  refine gj_iload (pc := 12) cx d_N_take_12 (x := nI (t / 35)) rfl ?_
  refine gj_if_neN (pc := 14) cx d_N_take_14 (tgt := 38) rfl (by omega) (fun hb1 => ?_) (fun hb1 => ?_)
  · refine gj_aload_n (pc := 38) cx d_N_take_38 rfl (x := a 0) rfl ?_
    refine gj_get (pc := 39) (ci := 0) (C := R_N) (T := T_N) (N := 12) (v := .ref (a 5)) cx hK gj_wP in_N d_N_take_39 0 rfl rfl 10 (by decide) (in_WT wm_43) rfl ?_
    refine gj_iload_n (pc := 42) cx d_N_take_42 rfl (x := nI t) rfl ?_
    refine gj_bipush (pc := 43) cx d_N_take_43 (v := nI 7) (by decide) ?_
    refine gj_imulN (pc := 45) cx d_N_take_45 ?_
    refine gj_iload_n (pc := 46) cx d_N_take_46 rfl (x := nI y) rfl ?_
    refine gj_iaddN (pc := 47) cx d_N_take_47 ?_
    refine gj_lload_n (pc := 48) cx d_N_take_48 rfl (x := pp) rfl ?_
    refine gj_last (pc := 49) (i := (t * 7) + y) (f := nTo u) (x := pp) (ws' := nW cI cJ a me n f (nCo u, nFu u, nSu u, nSa u, nCn u, nFr u, nBa u, va_up (nTo u) ((t * 7) + y) pp, nAc u)) cx hK d_N_take_49 5 1 rfl rfl (by omega) (by decide) rfl ?_
    obtain ⟨v, hv⟩ : ∃ v, v = sTo u (va_up (nTo u) (t * 7 + y) pp) := ⟨_, rfl⟩
    refine gj_eq (w' := nW cI cJ a me n f v) rfl rfl rfl (by rw [hv]) ?_
    have hokv : nOk v := hv ▸ ⟨hco, hfu, hsu, hcn, hfr⟩
    have hacv : ∀ j, j < 35 → nAc v j ≠ -1 → payN (nAc v j) < n := hv ▸ hac
    have hmkv : nSa v 140 = -1 ∨ ∀ c, c < n → digN (nSa v 140) c ≤ 5 := hv ▸ hmk
    refine gj_iload (pc := 50) cx d_N_take_50 (x := nI (t / 35)) rfl ?_
    refine gj_iconst (pc := 52) cx d_N_take_52 (v := nI 4) (by decide) ?_
    refine gj_icmp_neN (pc := 53) cx d_N_take_53 (tgt := 62) rfl (by omega) (by omega) (fun hb2 => ?_) (fun hb2 => ?_)
    · refine gj_aload_n (pc := 62) cx d_N_take_62 rfl (x := a 0) rfl ?_
      refine gj_iload (pc := 63) cx d_N_take_63 (x := nI (t / 35)) rfl ?_
      refine gj_iload (pc := 65) cx d_N_take_65 (x := nI (t % 35)) rfl ?_
      refine gj_lload_n (pc := 67) cx d_N_take_67 rfl (x := pp) rfl ?_
      refine gj_callVRi (pc := 68) (As := [.int (nI (t / 35)), .int (nI (t % 35)), .long pp]) (rest := []) (v := bI (nRdy v n f (t / 35) (t % 35) pp)) cx hK (c_N_callsForReady l D cI cJ a me n f v (t / 35) (t % 35) pp (by omega) (by omega) (by omega) (by omega)) (cwV 3 cx.2.2.2.2 (good_V wm_194 wm_192 wm_193 wm_546 wm_3) rfl rfl rfl (by decide +kernel) ⟨Nat.le_of_ble_eq_true rfl, Nat.le_of_ble_eq_true rfl⟩) gj_wP 0 0 rfl rfl rfl rfl rfl (Nat.le_of_ble_eq_true rfl) d_N_take_68 ⟨Nat.zero_le _, Nat.zero_le _⟩ ?_
      refine gj_if_eqB (pc := 71) cx d_N_take_71 (tgt := 91) rfl (fun hb3 => ?_) (fun hb3 => ?_)
      · obtain ⟨z, hzz⟩ : ∃ z, z = v := ⟨_, rfl⟩
        refine gj_eq (w' := nW cI cJ a me n f z) rfl rfl rfl (by rw [hzz]) ?_
        have hz := nTake_3 hv hb1 hb2 (Or.inr ⟨hb3, hzz⟩)
        have hokz : nOk z := hzz ▸ hokv
        have hacz : ∀ j, j < 35 → nAc z j ≠ -1 → payN (nAc z j) < n := hzz ▸ hacv
        refine gj_aload_n (pc := 91) cx d_N_take_91 rfl (x := a 0) rfl ?_
        refine gj_iload (pc := 92) cx d_N_take_92 (x := nI (t % 35)) rfl ?_
        refine gj_lload_n (pc := 94) cx d_N_take_94 rfl (x := pp) rfl ?_
        refine gj_callVRi (pc := 95) (As := [.int (nI (t % 35)), .long pp]) (rest := []) (v := bI (nAcq z n f (t % 35) pp)) cx hK (c_N_isAcceptable l D cI cJ a me n f z (t % 35) pp (hokz) (by omega) (by omega) (by omega)) (cwV 2 cx.2.2.2.2 (good_V wm_197 wm_195 wm_196 wm_547 wm_3) rfl rfl rfl (by decide +kernel) ⟨Nat.le_of_ble_eq_true rfl, Nat.le_of_ble_eq_true rfl⟩) gj_wP 0 0 rfl rfl rfl rfl rfl (Nat.le_of_ble_eq_true rfl) d_N_take_95 ⟨Nat.zero_le _, Nat.zero_le _⟩ ?_
        refine gj_if_eqB (pc := 98) cx d_N_take_98 (tgt := 109) rfl (fun hb4 => ?_) (fun hb4 => ?_)
        · rw [if_neg (by rw [hb4]; exact Bool.false_ne_true)] at hz
          refine gj_aload_n (pc := 109) cx d_N_take_109 rfl (x := a 0) rfl ?_
          refine gj_callVWi (pc := 110) (As := []) (rest := []) (v := (nApply n 35 0 z).1) (ws' := nW cI cJ a me n f ((nApply n 35 0 z).2)) cx hK hA (fun sz => c_N_applyWhatIsValid l D cI cJ a me n f z  (⟨hokz.1, hokz.2.1, hokz.2.2.1, hokz.2.2.2.1, hokz.2.2.2.2⟩) (by first | exact hacz | exact nAc_up hacz (hpp.resolve_left (by omega))) (by omega) sz) (cwV 0 cx.2.2.2.2 (good_V wm_200 wm_198 wm_199 wm_548 wm_3) rfl rfl rfl (by decide +kernel) ⟨Nat.le_of_ble_eq_true rfl, Nat.le_of_ble_eq_true rfl⟩) gj_J.self 0 0 rfl rfl rfl rfl rfl (Nat.le_of_ble_eq_true rfl) d_N_take_110 ⟨Nat.zero_le _, Nat.zero_le _⟩ ?_
          exact gj_iretW (pc := 113) cx hr hlk d_N_take_113 (by rw [hz]) (by rw [hz])
        · refine gj_aload_n (pc := 101) cx d_N_take_101 rfl (x := a 0) rfl ?_
          refine gj_get (pc := 102) (ci := 0) (C := R_N) (T := T_N) (N := 12) (v := .ref (a 6)) cx hK gj_wP in_N d_N_take_102 0 rfl rfl 11 (by decide) (in_WT wm_44) rfl ?_
          refine gj_iload (pc := 105) cx d_N_take_105 (x := nI (t % 35)) rfl ?_
          refine gj_lload_n (pc := 107) cx d_N_take_107 rfl (x := pp) rfl ?_
          refine gj_last (pc := 108) (i := t % 35) (f := nAc z) (x := pp) (ws' := nW cI cJ a me n f (nCo z, nFu z, nSu z, nSa z, nCn z, nFr z, nBa z, nTo z, va_up (nAc z) (t % 35) pp)) cx hK d_N_take_108 6 1 rfl rfl (by omega) (by decide) rfl ?_
          rw [if_pos hb4] at hz
          refine gj_aload_n (pc := 109) cx d_N_take_109 rfl (x := a 0) rfl ?_
          refine gj_callVWi (pc := 110) (As := []) (rest := []) (v := (nApply n 35 0 (nCo z, nFu z, nSu z, nSa z, nCn z, nFr z, nBa z, nTo z, va_up (nAc z) (t % 35) pp)).1) (ws' := nW cI cJ a me n f ((nApply n 35 0 (nCo z, nFu z, nSu z, nSa z, nCn z, nFr z, nBa z, nTo z, va_up (nAc z) (t % 35) pp)).2)) cx hK hA (fun sz => c_N_applyWhatIsValid l D cI cJ a me n f (nCo z, nFu z, nSu z, nSa z, nCn z, nFr z, nBa z, nTo z, va_up (nAc z) (t % 35) pp)  (⟨hokz.1, hokz.2.1, hokz.2.2.1, hokz.2.2.2.1, hokz.2.2.2.2⟩) (by first | exact hacz | exact nAc_up hacz (hpp.resolve_left (by omega))) (by omega) sz) (cwV 0 cx.2.2.2.2 (good_V wm_200 wm_198 wm_199 wm_548 wm_3) rfl rfl rfl (by decide +kernel) ⟨Nat.le_of_ble_eq_true rfl, Nat.le_of_ble_eq_true rfl⟩) gj_J.self 0 0 rfl rfl rfl rfl rfl (Nat.le_of_ble_eq_true rfl) d_N_take_110 ⟨Nat.zero_le _, Nat.zero_le _⟩ ?_
          exact gj_iretW (pc := 113) cx hr hlk d_N_take_113 (by rw [hz]) (by rw [hz])
      · refine gj_aload_n (pc := 74) cx d_N_take_74 rfl (x := a 0) rfl ?_
        refine gj_iconst (pc := 75) cx d_N_take_75 (v := nI 2) (by decide) ?_
        refine gj_iload (pc := 76) cx d_N_take_76 (x := nI (t % 35)) rfl ?_
        refine gj_callSRi (pc := 78) (As := [.int (nI 2), .int (nI (t % 35))]) (rest := [.ref (a 0)]) (v := nI (70 + (t % 35))) cx hK (c_T_at l D (tyl cI cJ) 2 (t % 35) ) (va_cwS 2 cx.2.2.2.2 (good_S wm_178 wm_176 wm_177 wm_6) rfl rfl rfl (by decide +kernel) ⟨Nat.le_of_ble_eq_true rfl, Nat.le_of_ble_eq_true rfl⟩) (fun _ _ _ => gj_P0) rfl rfl (Nat.le_of_ble_eq_true rfl) d_N_take_78 ⟨Nat.zero_le _, Nat.zero_le _⟩ ?_
        refine gj_lload_n (pc := 81) cx d_N_take_81 rfl (x := pp) rfl ?_
        refine gj_callVWi (pc := 82) (As := [.int (nI (70 + (t % 35))), .long pp]) (rest := []) (v := bI (nWrB v)) (ws' := nW cI cJ a me n f (nWr v (70 + (t % 35)) pp)) cx hK hA (fun sz => c_N_write l D cI cJ a me n f v (70 + (t % 35)) pp (hokv) (by omega) sz) (cwV 2 cx.2.2.2.2 (good_V wm_110 wm_108 wm_109 wm_537 wm_3) rfl rfl rfl (by decide +kernel) ⟨Nat.le_of_ble_eq_true rfl, Nat.le_of_ble_eq_true rfl⟩) gj_J.self 0 0 rfl rfl rfl rfl rfl (Nat.le_of_ble_eq_true rfl) d_N_take_82 ⟨Nat.zero_le _, Nat.zero_le _⟩ ?_
        refine gj_if_neB (pc := 85) cx d_N_take_85 (tgt := 91) rfl (fun hb5 => ?_) (fun hb5 => ?_)
        · obtain ⟨z, hzz⟩ : ∃ z, z = nWr v (70 + t % 35) pp := ⟨_, rfl⟩
          refine gj_eq (w' := nW cI cJ a me n f z) rfl rfl rfl (by rw [hzz]) ?_
          have hz := nTake_3 hv hb1 hb2 (Or.inl ⟨hb3, nWrB_t hb5, hzz⟩)
          have hokz : nOk z := hzz ▸ nOk_wr hokv
          have hacz : ∀ j, j < 35 → nAc z j ≠ -1 → payN (nAc z j) < n := by rw [hzz, nAc_wr (nWrB_t hb5)]; exact hacv
          refine gj_aload_n (pc := 91) cx d_N_take_91 rfl (x := a 0) rfl ?_
          refine gj_iload (pc := 92) cx d_N_take_92 (x := nI (t % 35)) rfl ?_
          refine gj_lload_n (pc := 94) cx d_N_take_94 rfl (x := pp) rfl ?_
          refine gj_callVRi (pc := 95) (As := [.int (nI (t % 35)), .long pp]) (rest := []) (v := bI (nAcq z n f (t % 35) pp)) cx hK (c_N_isAcceptable l D cI cJ a me n f z (t % 35) pp (hokz) (by omega) (by omega) (by omega)) (cwV 2 cx.2.2.2.2 (good_V wm_197 wm_195 wm_196 wm_547 wm_3) rfl rfl rfl (by decide +kernel) ⟨Nat.le_of_ble_eq_true rfl, Nat.le_of_ble_eq_true rfl⟩) gj_wP 0 0 rfl rfl rfl rfl rfl (Nat.le_of_ble_eq_true rfl) d_N_take_95 ⟨Nat.zero_le _, Nat.zero_le _⟩ ?_
          refine gj_if_eqB (pc := 98) cx d_N_take_98 (tgt := 109) rfl (fun hb6 => ?_) (fun hb6 => ?_)
          · rw [if_neg (by rw [hb6]; exact Bool.false_ne_true)] at hz
            refine gj_aload_n (pc := 109) cx d_N_take_109 rfl (x := a 0) rfl ?_
            refine gj_callVWi (pc := 110) (As := []) (rest := []) (v := (nApply n 35 0 z).1) (ws' := nW cI cJ a me n f ((nApply n 35 0 z).2)) cx hK hA (fun sz => c_N_applyWhatIsValid l D cI cJ a me n f z  (⟨hokz.1, hokz.2.1, hokz.2.2.1, hokz.2.2.2.1, hokz.2.2.2.2⟩) (by first | exact hacz | exact nAc_up hacz (hpp.resolve_left (by omega))) (by omega) sz) (cwV 0 cx.2.2.2.2 (good_V wm_200 wm_198 wm_199 wm_548 wm_3) rfl rfl rfl (by decide +kernel) ⟨Nat.le_of_ble_eq_true rfl, Nat.le_of_ble_eq_true rfl⟩) gj_J.self 0 0 rfl rfl rfl rfl rfl (Nat.le_of_ble_eq_true rfl) d_N_take_110 ⟨Nat.zero_le _, Nat.zero_le _⟩ ?_
            exact gj_iretW (pc := 113) cx hr hlk d_N_take_113 (by rw [hz]) (by rw [hz])
          · refine gj_aload_n (pc := 101) cx d_N_take_101 rfl (x := a 0) rfl ?_
            refine gj_get (pc := 102) (ci := 0) (C := R_N) (T := T_N) (N := 12) (v := .ref (a 6)) cx hK gj_wP in_N d_N_take_102 0 rfl rfl 11 (by decide) (in_WT wm_44) rfl ?_
            refine gj_iload (pc := 105) cx d_N_take_105 (x := nI (t % 35)) rfl ?_
            refine gj_lload_n (pc := 107) cx d_N_take_107 rfl (x := pp) rfl ?_
            refine gj_last (pc := 108) (i := t % 35) (f := nAc z) (x := pp) (ws' := nW cI cJ a me n f (nCo z, nFu z, nSu z, nSa z, nCn z, nFr z, nBa z, nTo z, va_up (nAc z) (t % 35) pp)) cx hK d_N_take_108 6 1 rfl rfl (by omega) (by decide) rfl ?_
            rw [if_pos hb6] at hz
            refine gj_aload_n (pc := 109) cx d_N_take_109 rfl (x := a 0) rfl ?_
            refine gj_callVWi (pc := 110) (As := []) (rest := []) (v := (nApply n 35 0 (nCo z, nFu z, nSu z, nSa z, nCn z, nFr z, nBa z, nTo z, va_up (nAc z) (t % 35) pp)).1) (ws' := nW cI cJ a me n f ((nApply n 35 0 (nCo z, nFu z, nSu z, nSa z, nCn z, nFr z, nBa z, nTo z, va_up (nAc z) (t % 35) pp)).2)) cx hK hA (fun sz => c_N_applyWhatIsValid l D cI cJ a me n f (nCo z, nFu z, nSu z, nSa z, nCn z, nFr z, nBa z, nTo z, va_up (nAc z) (t % 35) pp)  (⟨hokz.1, hokz.2.1, hokz.2.2.1, hokz.2.2.2.1, hokz.2.2.2.2⟩) (by first | exact hacz | exact nAc_up hacz (hpp.resolve_left (by omega))) (by omega) sz) (cwV 0 cx.2.2.2.2 (good_V wm_200 wm_198 wm_199 wm_548 wm_3) rfl rfl rfl (by decide +kernel) ⟨Nat.le_of_ble_eq_true rfl, Nat.le_of_ble_eq_true rfl⟩) gj_J.self 0 0 rfl rfl rfl rfl rfl (Nat.le_of_ble_eq_true rfl) d_N_take_110 ⟨Nat.zero_le _, Nat.zero_le _⟩ ?_
            exact gj_iretW (pc := 113) cx hr hlk d_N_take_113 (by rw [hz]) (by rw [hz])
        · refine gj_bipush (pc := 88) cx d_N_take_88 (v := (-7)) (by decide) ?_
          exact gj_iretW (pc := 90) cx hr hlk d_N_take_90 (by rw [nTake_7 hv hb1 hb2 hb3 (nWrB_f hb5)]) (by rw [nTake_7 hv hb1 hb2 hb3 (nWrB_f hb5), nWr_f hb5])
    · refine gj_aload_n (pc := 56) cx d_N_take_56 rfl (x := a 0) rfl ?_
      refine gj_callVWv (pc := 57) (As := []) (rest := []) (ws' := nW cI cJ a me n f (nFree v n f)) cx hK hA (fun sz => c_N_freeWhatIsMarked l D cI cJ a me n f v  (hokv) (hmkv) (by omega) (by omega) sz) (cwV 0 cx.2.2.2.2 (good_V wm_184 wm_182 wm_183 wm_543 wm_3) rfl rfl rfl (by decide +kernel) ⟨Nat.le_of_ble_eq_true rfl, Nat.le_of_ble_eq_true rfl⟩) gj_J.self 0 0 rfl rfl rfl rfl rfl (Nat.le_of_ble_eq_true rfl) d_N_take_57 ⟨Nat.zero_le _, Nat.zero_le _⟩ ?_
      refine gj_iconst (pc := 60) cx d_N_take_60 (v := nI 0) (by decide) ?_
      exact gj_iretW (pc := 61) cx hr hlk d_N_take_61 (by rw [nTake_4 hv hb2]; rfl) (by rw [nTake_4 hv hb2])
  · refine gj_aload_n (pc := 17) cx d_N_take_17 rfl (x := a 0) rfl ?_
    refine gj_iconst (pc := 18) cx d_N_take_18 (v := nI 1) (by decide) ?_
    refine gj_iload (pc := 19) cx d_N_take_19 (x := nI (t % 35)) rfl ?_
    refine gj_callSRi (pc := 21) (As := [.int (nI 1), .int (nI (t % 35))]) (rest := [.ref (a 0)]) (v := nI (35 + (t % 35))) cx hK (c_T_at l D (tyl cI cJ) 1 (t % 35) ) (va_cwS 2 cx.2.2.2.2 (good_S wm_178 wm_176 wm_177 wm_6) rfl rfl rfl (by decide +kernel) ⟨Nat.le_of_ble_eq_true rfl, Nat.le_of_ble_eq_true rfl⟩) (fun _ _ _ => gj_P0) rfl rfl (Nat.le_of_ble_eq_true rfl) d_N_take_21 ⟨Nat.zero_le _, Nat.zero_le _⟩ ?_
    refine gj_lload_n (pc := 24) cx d_N_take_24 rfl (x := pp) rfl ?_
    refine gj_callVWi (pc := 25) (As := [.int (nI (35 + (t % 35))), .long pp]) (rest := []) (v := bI (nWrB u)) (ws' := nW cI cJ a me n f (nWr u (35 + (t % 35)) pp)) cx hK hA (fun sz => c_N_write l D cI cJ a me n f u (35 + (t % 35)) pp (hok) (by omega) sz) (cwV 2 cx.2.2.2.2 (good_V wm_110 wm_108 wm_109 wm_537 wm_3) rfl rfl rfl (by decide +kernel) ⟨Nat.le_of_ble_eq_true rfl, Nat.le_of_ble_eq_true rfl⟩) gj_J.self 0 0 rfl rfl rfl rfl rfl (Nat.le_of_ble_eq_true rfl) d_N_take_25 ⟨Nat.zero_le _, Nat.zero_le _⟩ ?_
    refine gj_if_eqB (pc := 28) cx d_N_take_28 (tgt := 35) rfl (fun hb7 => ?_) (fun hb7 => ?_)
    · refine gj_bipush (pc := 35) cx d_N_take_35 (v := (-7)) (by decide) ?_
      exact gj_iretW (pc := 37) cx hr hlk d_N_take_37 (by rw [nTake_0 hb1, if_pos (nWrB_f hb7)]) (by rw [nTake_0 hb1])
    · refine gj_iconst (pc := 31) cx d_N_take_31 (v := nI 0) (by decide) ?_
      refine gj_goto (pc := 32) cx d_N_take_32 (tgt := 37) rfl ?_
      exact gj_iretW (pc := 37) cx hr hlk d_N_take_37 (by rw [nTake_0 hb1, if_neg (nWrB_t hb7)]; rfl) (by rw [nTake_0 hb1])

set_option maxRecDepth 100000 in
set_option maxHeartbeats 4000000 in
theorem c_N_receive (l : Launch) (D : va_G) (cI cJ : ClassId) (a : Nat → Nat) (me n f : Nat) (u : NS) (t : Nat) (y : Nat) (pp : Int64) (hok : nOk u) (hac : ∀ j, j < 35 → nAc u j ≠ -1 → payN (nAc u j) < n) (hmk : nSa u 140 = -1 ∨ ∀ c, c < n → digN (nSa u 140) c ≤ 5) (hn : n ≤ 7) (hf : f ≤ 7) (ht : t < 141) (hy : y < 7) (sz : Nat) : MWi l y_N_receive (wsM y_N_receive b_N_receive 6 (some .int)) { frames := 5, cells := 0, slots := 0, locals := 116 } D vwK (tyl cI cJ) (nW cI cJ a me n f u) (nW cI cJ a me n f ((nRecv u n f t y pp).2)) sz [.ref (a 0), .int (nI t), .int (nI y), .long pp] ((nRecv u n f t y pp).1) := by
  obtain ⟨hco, hfu, hsu, hcn, hfr⟩ := id hok
  refine gj_enterW (own := R_N) (by decide) rfl (Nat.le_of_ble_eq_true rfl) rfl rfl (fun p e s m below meth c cx hr hlk hK hsz => ?_)
  have hA : ∀ q, s.heap.size ≤ q → va_A (nW cI cJ a me n f u) sz q := fun q h => Or.inr (hsz ▸ h)
  refine gj_aload_n (pc := 0) cx d_N_receive_0 rfl (x := a 0) rfl ?_
  refine gj_iload_n (pc := 1) cx d_N_receive_1 rfl (x := nI t) rfl ?_
  refine gj_lload_n (pc := 2) cx d_N_receive_2 rfl (x := pp) rfl ?_
  refine gj_callVRi (pc := 3) (As := [.int (nI t), .long pp]) (rest := []) (v := bI (nWf t pp n)) cx hK (c_N_isWellFormed l D cI cJ a me n f u t pp (by omega) (by omega)) (cwV 2 cx.2.2.2.2 (good_V wm_145 wm_143 wm_144 wm_540 wm_3) rfl rfl rfl (by decide +kernel) ⟨Nat.le_of_ble_eq_true rfl, Nat.le_of_ble_eq_true rfl⟩) gj_wP 0 0 rfl rfl rfl rfl rfl (Nat.le_of_ble_eq_true rfl) d_N_receive_3 ⟨Nat.zero_le _, Nat.zero_le _⟩ ?_
  refine gj_if_neB (pc := 6) cx d_N_receive_6 (tgt := 12) rfl (fun hb1 => ?_) (fun hb1 => ?_)
  · refine gj_aload_n (pc := 12) cx d_N_receive_12 rfl (x := a 0) rfl ?_
    refine gj_iload_n (pc := 13) cx d_N_receive_13 rfl (x := nI t) rfl ?_
    refine gj_iload_n (pc := 14) cx d_N_receive_14 rfl (x := nI y) rfl ?_
    refine gj_lload_n (pc := 15) cx d_N_receive_15 rfl (x := pp) rfl ?_
    refine gj_callVRi (pc := 16) (As := [.int (nI t), .int (nI y), .long pp]) (rest := []) (v := nObj u t y pp) cx hK (c_N_objection l D cI cJ a me n f u t y pp (hok) (by omega) (by omega)) (cwV 3 cx.2.2.2.2 (good_V wm_166 wm_164 wm_165 wm_541 wm_3) rfl rfl rfl (by decide +kernel) ⟨Nat.le_of_ble_eq_true rfl, Nat.le_of_ble_eq_true rfl⟩) gj_wP 0 0 rfl rfl rfl rfl rfl (Nat.le_of_ble_eq_true rfl) d_N_receive_16 ⟨Nat.zero_le _, Nat.zero_le _⟩ ?_
    refine gj_istore (pc := 19) cx d_N_receive_19 (lo' := [(5, .int (nObj u t y pp)), (0, .ref (a 0)), (1, .int (nI t)), (2, .int (nI y)), (3, .long pp)]) (by decide) rfl ?_
    refine gj_iload (pc := 21) cx d_N_receive_21 (x := nObj u t y pp) rfl ?_
    refine gj_if_ne (pc := 23) cx d_N_receive_23 (tgt := 36) rfl (fun hb2 => ?_) (fun hb2 => ?_)
    · refine gj_iload (pc := 36) cx d_N_receive_36 (x := nObj u t y pp) rfl ?_
      exact gj_iretW (pc := 38) cx hr hlk d_N_receive_38 (by rw [nRecv, if_neg (by rw [hb1]; decide), if_neg hb2]) (by rw [nRecv, if_neg (by rw [hb1]; decide), if_neg hb2])
    · refine gj_aload_n (pc := 26) cx d_N_receive_26 rfl (x := a 0) rfl ?_
      refine gj_iload_n (pc := 27) cx d_N_receive_27 rfl (x := nI t) rfl ?_
      refine gj_iload_n (pc := 28) cx d_N_receive_28 rfl (x := nI y) rfl ?_
      refine gj_lload_n (pc := 29) cx d_N_receive_29 rfl (x := pp) rfl ?_
      refine gj_callVWi (pc := 30) (As := [.int (nI t), .int (nI y), .long pp]) (rest := []) (v := (nTake u n f t y pp).1) (ws' := nW cI cJ a me n f ((nTake u n f t y pp).2)) cx hK hA (fun sz => c_N_take l D cI cJ a me n f u t y pp (hok) (hac) (hmk) (by omega) (by omega) (by omega) (by omega) (nWf_pay hb1) sz) (cwV 3 cx.2.2.2.2 (good_V wm_181 wm_179 wm_180 wm_542 wm_3) rfl rfl rfl (by decide +kernel) ⟨Nat.le_of_ble_eq_true rfl, Nat.le_of_ble_eq_true rfl⟩) gj_J.self 0 0 rfl rfl rfl rfl rfl (Nat.le_of_ble_eq_true rfl) d_N_receive_30 ⟨Nat.zero_le _, Nat.zero_le _⟩ ?_
      refine gj_goto (pc := 33) cx d_N_receive_33 (tgt := 38) rfl ?_
      exact gj_iretW (pc := 38) cx hr hlk d_N_receive_38 (by rw [nRecv, if_neg (by rw [hb1]; decide), if_pos hb2]) (by rw [nRecv, if_neg (by rw [hb1]; decide), if_pos hb2])
  · refine gj_bipush (pc := 9) cx d_N_receive_9 (v := (-3)) (by decide) ?_
    exact gj_iretW (pc := 11) cx hr hlk d_N_receive_11 (by rw [nRecv, if_pos hb1]) (by rw [nRecv, if_pos hb1])
