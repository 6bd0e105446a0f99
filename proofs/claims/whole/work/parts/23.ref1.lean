/-! Contracts of the reference, first part, laid by wip/gen/m_ref.py -/
set_option maxRecDepth 100000 in
set_option maxHeartbeats 4000000 in
theorem c_M_at (l : Launch) (D : va_G) (tys : List (ClassId × FieldType)) (x : Nat) (b : Nat) (q : Nat) (hq : 1 ≤ q) : MRi l y_M_at (wsM y_M_at b_M_at 3 (some .int)) { frames := 0, cells := 0, slots := 0, locals := 0 } D vwK tys ([]) [.int (nI x), .int (nI b), .int (nI q)] (nI ((x * 7 + b) * 5 + q - 1)) := by
  refine gj_enterR (own := R_M) (by decide) rfl (Nat.le_of_ble_eq_true rfl) rfl rfl (fun p e s m below meth c cx hr hlk hK => ?_)
  refine gj_iload_n (pc := 0) cx d_M_at_0 rfl (x := nI x) rfl ?_
  refine gj_bipush (pc := 1) cx d_M_at_1 (v := nI 7) (by decide) ?_
  refine gj_imulN (pc := 3) cx d_M_at_3 ?_
  refine gj_iload_n (pc := 4) cx d_M_at_4 rfl (x := nI b) rfl ?_
  refine gj_iaddN (pc := 5) cx d_M_at_5 ?_
  refine gj_iconst (pc := 6) cx d_M_at_6 (v := nI 5) (by decide) ?_
  refine gj_imulN (pc := 7) cx d_M_at_7 ?_
  refine gj_iload_n (pc := 8) cx d_M_at_8 rfl (x := nI q) rfl ?_
  refine gj_iaddN (pc := 9) cx d_M_at_9 ?_
  refine gj_iconst (pc := 10) cx d_M_at_10 (v := nI 1) (by decide) ?_
  refine gj_isubN (pc := 11) cx d_M_at_11 (by omega) ?_
  exact gj_iretR (pc := 12) cx hr hlk d_M_at_12 (rfl)

set_option maxRecDepth 100000 in
set_option maxHeartbeats 4000000 in
theorem c_M_ear (l : Launch) (D : va_G) (tys : List (ClassId × FieldType)) (x : Nat) (k : Nat) (b : Nat) (q : Nat) (y : Nat) (hk : 1 ≤ k) (hq : 1 ≤ q) : MRi l y_M_ear (wsM y_M_ear b_M_ear 5 (some .int)) { frames := 0, cells := 0, slots := 0, locals := 0 } D vwK tys ([]) [.int (nI x), .int (nI k), .int (nI b), .int (nI q), .int (nI y)] (nI (((x * 3 + k - 1) * 35 + b * 5 + q - 1) * 7 + y)) := by
  refine gj_enterR (own := R_M) (by decide) rfl (Nat.le_of_ble_eq_true rfl) rfl rfl (fun p e s m below meth c cx hr hlk hK => ?_)
  refine gj_iload_n (pc := 0) cx d_M_ear_0 rfl (x := nI x) rfl ?_
  refine gj_iconst (pc := 1) cx d_M_ear_1 (v := nI 3) (by decide) ?_
  refine gj_imulN (pc := 2) cx d_M_ear_2 ?_
  refine gj_iload_n (pc := 3) cx d_M_ear_3 rfl (x := nI k) rfl ?_
  refine gj_iaddN (pc := 4) cx d_M_ear_4 ?_
  refine gj_iconst (pc := 5) cx d_M_ear_5 (v := nI 1) (by decide) ?_
  refine gj_isubN (pc := 6) cx d_M_ear_6 (by omega) ?_
  refine gj_bipush (pc := 7) cx d_M_ear_7 (v := nI 35) (by decide) ?_
  refine gj_imulN (pc := 9) cx d_M_ear_9 ?_
  refine gj_iload_n (pc := 10) cx d_M_ear_10 rfl (x := nI b) rfl ?_
  refine gj_iconst (pc := 11) cx d_M_ear_11 (v := nI 5) (by decide) ?_
  refine gj_imulN (pc := 12) cx d_M_ear_12 ?_
  refine gj_iaddN (pc := 13) cx d_M_ear_13 ?_
  refine gj_iload_n (pc := 14) cx d_M_ear_14 rfl (x := nI q) rfl ?_
  refine gj_iaddN (pc := 15) cx d_M_ear_15 ?_
  refine gj_iconst (pc := 16) cx d_M_ear_16 (v := nI 1) (by decide) ?_
  refine gj_isubN (pc := 17) cx d_M_ear_17 (by omega) ?_
  refine gj_bipush (pc := 18) cx d_M_ear_18 (v := nI 7) (by decide) ?_
  refine gj_imulN (pc := 20) cx d_M_ear_20 ?_
  refine gj_iload (pc := 21) cx d_M_ear_21 (x := nI y) rfl ?_
  refine gj_iaddN (pc := 23) cx d_M_ear_23 ?_
  exact gj_iretR (pc := 24) cx hr hlk d_M_ear_24 (rfl)

set_option maxRecDepth 100000 in
set_option maxHeartbeats 4000000 in
theorem c_M_payeeOf (l : Launch) (D : va_G) (tys : List (ClassId × FieldType)) (pp : Int64)  : MRi l y_M_payeeOf (wsM y_M_payeeOf b_M_payeeOf 2 (some .int)) { frames := 0, cells := 0, slots := 0, locals := 0 } D vwK tys ([]) [.long pp] (nI (payN pp)) := by
  refine gj_enterR (own := R_M) (by decide) rfl (Nat.le_of_ble_eq_true rfl) rfl rfl (fun p e s m below meth c cx hr hlk hK => ?_)
  refine gj_lload_n (pc := 0) cx d_M_payeeOf_0 rfl (x := pp) rfl ?_
  refine gj_ldc2 (pc := 1) cx d_M_payeeOf_1 (v := 7) (in_WT wm_409) ?_
  refine gj_land (pc := 4) cx d_M_payeeOf_4 ?_
  refine gj_l2i (pc := 5) cx d_M_payeeOf_5 rfl ?_
  refine gj_toi (y := nI (payN pp)) (px_pay pp) ?_
  exact gj_iretR (pc := 6) cx hr hlk d_M_payeeOf_6 (rfl)

set_option maxRecDepth 100000 in
set_option maxHeartbeats 4000000 in
theorem c_M_amountOf (l : Launch) (D : va_G) (tys : List (ClassId × FieldType)) (pp : Int64)  : MRi l y_M_amountOf (wsM y_M_amountOf b_M_amountOf 2 (some .int)) { frames := 0, cells := 0, slots := 0, locals := 0 } D vwK tys ([]) [.long pp] (nI (amtN pp)) := by
  refine gj_enterR (own := R_M) (by decide) rfl (Nat.le_of_ble_eq_true rfl) rfl rfl (fun p e s m below meth c cx hr hlk hK => ?_)
  refine gj_lload_n (pc := 0) cx d_M_amountOf_0 rfl (x := pp) rfl ?_
  refine gj_iconst (pc := 1) cx d_M_amountOf_1 (v := nI 3) (by decide) ?_
  refine gj_lshr (pc := 2) cx d_M_amountOf_2 rfl ?_
  refine gj_ldc2 (pc := 3) cx d_M_amountOf_3 (v := 1023) (in_WT wm_421) ?_
  refine gj_land (pc := 6) cx d_M_amountOf_6 ?_
  refine gj_l2i (pc := 7) cx d_M_amountOf_7 rfl ?_
  refine gj_toi (y := nI (amtN pp)) (px_amt pp) ?_
  exact gj_iretR (pc := 8) cx hr hlk d_M_amountOf_8 (rfl)

set_option maxRecDepth 100000 in
set_option maxHeartbeats 4000000 in
theorem c_M_needOf (l : Launch) (D : va_G) (tys : List (ClassId × FieldType)) (pp : Int64) (b : Nat) (hb : b < 7) : MRi l y_M_needOf (wsM y_M_needOf b_M_needOf 3 (some .int)) { frames := 0, cells := 0, slots := 0, locals := 0 } D vwK tys ([]) [.long pp, .int (nI b)] (nI (needN pp b)) := by
  refine gj_enterR (own := R_M) (by decide) rfl (Nat.le_of_ble_eq_true rfl) rfl rfl (fun p e s m below meth c cx hr hlk hK => ?_)
  refine gj_lload_n (pc := 0) cx d_M_needOf_0 rfl (x := pp) rfl ?_
  refine gj_bipush (pc := 1) cx d_M_needOf_1 (v := nI 13) (by decide) ?_
  refine gj_iconst (pc := 3) cx d_M_needOf_3 (v := nI 3) (by decide) ?_
  refine gj_iload_n (pc := 4) cx d_M_needOf_4 rfl (x := nI b) rfl ?_
  refine gj_imulN (pc := 5) cx d_M_needOf_5 ?_
  refine gj_iaddN (pc := 6) cx d_M_needOf_6 ?_
  refine gj_lshr (pc := 7) cx d_M_needOf_7 rfl ?_
  refine gj_ldc2 (pc := 8) cx d_M_needOf_8 (v := 7) (in_WT wm_409) ?_
  refine gj_land (pc := 11) cx d_M_needOf_11 ?_
  refine gj_l2i (pc := 12) cx d_M_needOf_12 rfl ?_
  refine gj_toi (y := nI (needN pp b)) (px_need pp hb) ?_
  exact gj_iretR (pc := 13) cx hr hlk d_M_needOf_13 (rfl)

set_option maxRecDepth 100000 in
set_option maxHeartbeats 4000000 in
theorem c_M_correct (l : Launch) (D : va_G) (cI cJ : ClassId) (am : Nat → Nat) (n f : Nat) (z : Int64) (S : RS) (nd : Int32) (hn : n ≤ 7) (hok : rOk S) : MRi l y_M_correct (wsM y_M_correct b_M_correct 2 (some .boolean)) { frames := 0, cells := 0, slots := 0, locals := 0 } D vwK (tyl cI cJ) (rW cI cJ am n f z S) [.ref (am 0), .int nd] (bI (rCor S n nd)) := by
  refine gj_enterR (own := R_M) (by decide) rfl (Nat.le_of_ble_eq_true rfl) rfl rfl (fun p e s m below meth c cx hr hlk hK => ?_)
  refine gj_iload_n (pc := 0) cx d_M_correct_0 rfl (x := nd) rfl ?_
  refine gj_if_lt (pc := 1) cx d_M_correct_1 (tgt := 26) rfl (fun hb1 => ?_) (fun hb1 => ?_)
  · refine gj_iconst (pc := 26) cx d_M_correct_26 (v := nI 0) (by decide) ?_
    exact gj_zretR (pc := 27) cx hr hlk d_M_correct_27 rfl (by rw [rCor_f (isN_f1 hb1)]; rfl)
  · refine gj_iload_n (pc := 4) cx d_M_correct_4 rfl (x := nd) rfl ?_
    refine gj_aload_n (pc := 5) cx d_M_correct_5 rfl (x := am 0) rfl ?_
    refine gj_get (pc := 6) (ci := 2) (C := R_M) (T := T_M) (N := 15) (v := .int (nI n)) cx hK gj_rP in_M d_M_correct_6 0 rfl rfl 0 (by decide) (in_WT wm_341) rfl ?_
    refine gj_icmp_ge (pc := 9) cx d_M_correct_9 (tgt := 26) rfl (fun hb2 => ?_) (fun hb2 => ?_)
    · refine gj_iconst (pc := 26) cx d_M_correct_26 (v := nI 0) (by decide) ?_
      exact gj_zretR (pc := 27) cx hr hlk d_M_correct_27 rfl (by rw [rCor_f (isN_f2 hb2)]; rfl)
    · obtain ⟨x, hx, rfl⟩ := isN_of hn (isN_t hb1 hb2)
      refine gj_aload_n (pc := 12) cx d_M_correct_12 rfl (x := am 0) rfl ?_
      refine gj_get (pc := 13) (ci := 2) (C := R_M) (T := T_M) (N := 15) (v := .ref (am 1)) cx hK gj_rP in_M d_M_correct_13 0 rfl rfl 3 (by decide) (in_WT wm_344) rfl ?_
      refine gj_iload_n (pc := 16) cx d_M_correct_16 rfl (x := nI x) rfl ?_
      refine gj_ialdN (pc := 17) (i := x) (f := rSt S) cx hK gj_rP d_M_correct_17 1 0 rfl rfl (by omega) (by decide) ?_
      have hv3 := hok.1 x
      refine gj_iconst (pc := 18) cx d_M_correct_18 (v := nI 2) (by decide) ?_
      refine gj_icmp_eqN (pc := 19) cx d_M_correct_19 (tgt := 26) rfl (by omega) (by omega) (fun hb4 => ?_) (fun hb4 => ?_)
      · refine gj_iconst (pc := 26) cx d_M_correct_26 (v := nI 0) (by decide) ?_
        exact gj_zretR (pc := 27) cx hr hlk d_M_correct_27 rfl (by rw [rCor_N hn hx]; simp [hb4, bI, nI])
      · refine gj_iconst (pc := 22) cx d_M_correct_22 (v := nI 1) (by decide) ?_
        refine gj_goto (pc := 23) cx d_M_correct_23 (tgt := 27) rfl ?_
        exact gj_zretR (pc := 27) cx hr hlk d_M_correct_27 rfl (by rw [rCor_N hn hx]; simp [hb4, bI, nI])

set_option maxRecDepth 100000 in
set_option maxHeartbeats 4000000 in
theorem c_M_up (l : Launch) (D : va_G) (cI cJ : ClassId) (am : Nat → Nat) (n f : Nat) (z : Int64) (S : RS) (nd : Int32) (hn : n ≤ 7) (hok : rOk S) : MRi l y_M_up (wsM y_M_up b_M_up 2 (some .boolean)) { frames := 0, cells := 0, slots := 0, locals := 0 } D vwK (tyl cI cJ) (rW cI cJ am n f z S) [.ref (am 0), .int nd] (bI (rUp S n nd)) := by
  refine gj_enterR (own := R_M) (by decide) rfl (Nat.le_of_ble_eq_true rfl) rfl rfl (fun p e s m below meth c cx hr hlk hK => ?_)
  refine gj_iload_n (pc := 0) cx d_M_up_0 rfl (x := nd) rfl ?_
  refine gj_if_lt (pc := 1) cx d_M_up_1 (tgt := 25) rfl (fun hb1 => ?_) (fun hb1 => ?_)
  · refine gj_iconst (pc := 25) cx d_M_up_25 (v := nI 0) (by decide) ?_
    exact gj_zretR (pc := 26) cx hr hlk d_M_up_26 rfl (by rw [rUp_f (isN_f1 hb1)]; rfl)
  · refine gj_iload_n (pc := 4) cx d_M_up_4 rfl (x := nd) rfl ?_
    refine gj_aload_n (pc := 5) cx d_M_up_5 rfl (x := am 0) rfl ?_
    refine gj_get (pc := 6) (ci := 2) (C := R_M) (T := T_M) (N := 15) (v := .int (nI n)) cx hK gj_rP in_M d_M_up_6 0 rfl rfl 0 (by decide) (in_WT wm_341) rfl ?_
    refine gj_icmp_ge (pc := 9) cx d_M_up_9 (tgt := 25) rfl (fun hb2 => ?_) (fun hb2 => ?_)
    · refine gj_iconst (pc := 25) cx d_M_up_25 (v := nI 0) (by decide) ?_
      exact gj_zretR (pc := 26) cx hr hlk d_M_up_26 rfl (by rw [rUp_f (isN_f2 hb2)]; rfl)
    · obtain ⟨x, hx, rfl⟩ := isN_of hn (isN_t hb1 hb2)
      refine gj_aload_n (pc := 12) cx d_M_up_12 rfl (x := am 0) rfl ?_
      refine gj_get (pc := 13) (ci := 2) (C := R_M) (T := T_M) (N := 15) (v := .ref (am 1)) cx hK gj_rP in_M d_M_up_13 0 rfl rfl 3 (by decide) (in_WT wm_344) rfl ?_
      refine gj_iload_n (pc := 16) cx d_M_up_16 rfl (x := nI x) rfl ?_
      refine gj_ialdN (pc := 17) (i := x) (f := rSt S) cx hK gj_rP d_M_up_17 1 0 rfl rfl (by omega) (by decide) ?_
      have hv3 := hok.1 x
      refine gj_if_neN (pc := 18) cx d_M_up_18 (tgt := 25) rfl (by omega) (fun hb4 => ?_) (fun hb4 => ?_)
      · refine gj_iconst (pc := 25) cx d_M_up_25 (v := nI 0) (by decide) ?_
        exact gj_zretR (pc := 26) cx hr hlk d_M_up_26 rfl (by rw [rUp_N hn hx]; simp [hb4, bI, nI])
      · refine gj_iconst (pc := 21) cx d_M_up_21 (v := nI 1) (by decide) ?_
        refine gj_goto (pc := 22) cx d_M_up_22 (tgt := 26) rfl ?_
        exact gj_zretR (pc := 26) cx hr hlk d_M_up_26 rfl (by rw [rUp_N hn hx]; simp [hb4, bI, nI])

set_option maxRecDepth 100000 in
set_option maxHeartbeats 4000000 in
theorem c_M_state (l : Launch) (D : va_G) (cI cJ : ClassId) (am : Nat → Nat) (n f : Nat) (z : Int64) (S : RS) (nd : Int32) (hn : n ≤ 7) (hok : rOk S) : MRi l y_M_state (wsM y_M_state b_M_state 2 (some .int)) { frames := 0, cells := 0, slots := 0, locals := 0 } D vwK (tyl cI cJ) (rW cI cJ am n f z S) [.ref (am 0), .int nd] (rState S n nd) := by
  refine gj_enterR (own := R_M) (by decide) rfl (Nat.le_of_ble_eq_true rfl) rfl rfl (fun p e s m below meth c cx hr hlk hK => ?_)
  refine gj_iload_n (pc := 0) cx d_M_state_0 rfl (x := nd) rfl ?_
  refine gj_if_lt (pc := 1) cx d_M_state_1 (tgt := 21) rfl (fun hb1 => ?_) (fun hb1 => ?_)
  · refine gj_iconst (pc := 21) cx d_M_state_21 (v := (-1)) (by decide) ?_
    exact gj_iretR (pc := 22) cx hr hlk d_M_state_22 (by rw [rState_f (isN_f1 hb1)])
  · refine gj_iload_n (pc := 4) cx d_M_state_4 rfl (x := nd) rfl ?_
    refine gj_aload_n (pc := 5) cx d_M_state_5 rfl (x := am 0) rfl ?_
    refine gj_get (pc := 6) (ci := 2) (C := R_M) (T := T_M) (N := 15) (v := .int (nI n)) cx hK gj_rP in_M d_M_state_6 0 rfl rfl 0 (by decide) (in_WT wm_341) rfl ?_
    refine gj_icmp_ge (pc := 9) cx d_M_state_9 (tgt := 21) rfl (fun hb2 => ?_) (fun hb2 => ?_)
    · refine gj_iconst (pc := 21) cx d_M_state_21 (v := (-1)) (by decide) ?_
      exact gj_iretR (pc := 22) cx hr hlk d_M_state_22 (by rw [rState_f (isN_f2 hb2)])
    · obtain ⟨x, hx, rfl⟩ := isN_of hn (isN_t hb1 hb2)
      refine gj_aload_n (pc := 12) cx d_M_state_12 rfl (x := am 0) rfl ?_
      refine gj_get (pc := 13) (ci := 2) (C := R_M) (T := T_M) (N := 15) (v := .ref (am 1)) cx hK gj_rP in_M d_M_state_13 0 rfl rfl 3 (by decide) (in_WT wm_344) rfl ?_
      refine gj_iload_n (pc := 16) cx d_M_state_16 rfl (x := nI x) rfl ?_
      refine gj_ialdN (pc := 17) (i := x) (f := rSt S) cx hK gj_rP d_M_state_17 1 0 rfl rfl (by omega) (by decide) ?_
      have hv3 := hok.1 x
      refine gj_goto (pc := 18) cx d_M_state_18 (tgt := 22) rfl ?_
      exact gj_iretR (pc := 22) cx hr hlk d_M_state_22 (by rw [rState_N hn hx])

set_option maxRecDepth 100000 in
set_option maxHeartbeats 4000000 in
theorem c_M_isInstance (l : Launch) (D : va_G) (cI cJ : ClassId) (am : Nat → Nat) (n f : Nat) (z : Int64) (S : RS) (bd : Int32) (qd : Int32)  : MRi l y_M_isInstance (wsM y_M_isInstance b_M_isInstance 3 (some .boolean)) { frames := 0, cells := 0, slots := 0, locals := 0 } D vwK (tyl cI cJ) (rW cI cJ am n f z S) [.ref (am 0), .int bd, .int qd] (bI (isIn n bd qd)) := by
  refine gj_enterR (own := R_M) (by decide) rfl (Nat.le_of_ble_eq_true rfl) rfl rfl (fun p e s m below meth c cx hr hlk hK => ?_)
  refine gj_iload_n (pc := 0) cx d_M_isInstance_0 rfl (x := bd) rfl ?_
  refine gj_if_lt (pc := 1) cx d_M_isInstance_1 (tgt := 26) rfl (fun hb1 => ?_) (fun hb1 => ?_)
  · refine gj_iconst (pc := 26) cx d_M_isInstance_26 (v := nI 0) (by decide) ?_
    exact gj_zretR (pc := 27) cx hr hlk d_M_isInstance_27 rfl (by rw [isIn_f1 (isN_f1 hb1)]; rfl)
  · refine gj_iload_n (pc := 4) cx d_M_isInstance_4 rfl (x := bd) rfl ?_
    refine gj_aload_n (pc := 5) cx d_M_isInstance_5 rfl (x := am 0) rfl ?_
    refine gj_get (pc := 6) (ci := 2) (C := R_M) (T := T_M) (N := 15) (v := .int (nI n)) cx hK gj_rP in_M d_M_isInstance_6 0 rfl rfl 0 (by decide) (in_WT wm_341) rfl ?_
    refine gj_icmp_ge (pc := 9) cx d_M_isInstance_9 (tgt := 26) rfl (fun hb2 => ?_) (fun hb2 => ?_)
    · refine gj_iconst (pc := 26) cx d_M_isInstance_26 (v := nI 0) (by decide) ?_
      exact gj_zretR (pc := 27) cx hr hlk d_M_isInstance_27 rfl (by rw [isIn_f1 (isN_f2 hb2)]; rfl)
    · refine gj_iload_n (pc := 12) cx d_M_isInstance_12 rfl (x := qd) rfl ?_
      refine gj_iconst (pc := 13) cx d_M_isInstance_13 (v := nI 1) (by decide) ?_
      refine gj_icmp_lt (pc := 14) cx d_M_isInstance_14 (tgt := 26) rfl (fun hb3 => ?_) (fun hb3 => ?_)
      · refine gj_iconst (pc := 26) cx d_M_isInstance_26 (v := nI 0) (by decide) ?_
        exact gj_zretR (pc := 27) cx hr hlk d_M_isInstance_27 rfl (by rw [isIn_f2 hb3]; rfl)
      · refine gj_iload_n (pc := 17) cx d_M_isInstance_17 rfl (x := qd) rfl ?_
        refine gj_iconst (pc := 18) cx d_M_isInstance_18 (v := nI 5) (by decide) ?_
        refine gj_icmp_gt (pc := 19) cx d_M_isInstance_19 (tgt := 26) rfl (fun hb4 => ?_) (fun hb4 => ?_)
        · refine gj_iconst (pc := 26) cx d_M_isInstance_26 (v := nI 0) (by decide) ?_
          exact gj_zretR (pc := 27) cx hr hlk d_M_isInstance_27 rfl (by rw [isIn_f3 hb4]; rfl)
        · refine gj_iconst (pc := 22) cx d_M_isInstance_22 (v := nI 1) (by decide) ?_
          refine gj_goto (pc := 23) cx d_M_isInstance_23 (tgt := 27) rfl ?_
          exact gj_zretR (pc := 27) cx hr hlk d_M_isInstance_27 rfl (by rw [isIn_t (isN_t hb1 hb2) hb3 hb4]; rfl)

set_option maxRecDepth 100000 in
set_option maxHeartbeats 4000000 in
theorem c_M_wellFormed (l : Launch) (D : va_G) (cI cJ : ClassId) (am : Nat → Nat) (n f : Nat) (z : Int64) (S : RS) (pp : Int64) (bd : Int32) (qd : Int32) (hn : n ≤ 7) : MRi l y_M_wellFormed (wsM y_M_wellFormed b_M_wellFormed 7 (some .boolean)) { frames := 1, cells := 0, slots := 0, locals := 22 } D vwK (tyl cI cJ) (rW cI cJ am n f z S) [.ref (am 0), .long pp, .int bd, .int qd] (bI (isIn n bd qd && wfP pp (xN bd) n)) := by
  refine gj_enterR (own := R_M) (by decide) rfl (Nat.le_of_ble_eq_true rfl) rfl rfl (fun p e s m below meth c cx hr hlk hK => ?_)
  refine gj_aload_n (pc := 0) cx d_M_wellFormed_0 rfl (x := am 0) rfl ?_
  refine gj_iload_n (pc := 1) cx d_M_wellFormed_1 rfl (x := bd) rfl ?_
  refine gj_iload (pc := 2) cx d_M_wellFormed_2 (x := qd) rfl ?_
  refine gj_callVRi (pc := 4) (As := [.int bd, .int qd]) (rest := []) (v := bI (isIn n bd qd)) cx hK (c_M_isInstance l D cI cJ am n f z S bd qd ) (cwV 2 cx.2.2.2.2 (good_V wm_396 wm_394 wm_395 wm_558 wm_5) rfl rfl rfl (by decide +kernel) ⟨Nat.le_of_ble_eq_true rfl, Nat.le_of_ble_eq_true rfl⟩) gj_rP 0 2 rfl rfl rfl rfl rfl (Nat.le_of_ble_eq_true rfl) d_M_wellFormed_4 ⟨Nat.zero_le _, Nat.zero_le _⟩ ?_
  refine gj_if_eqB (pc := 7) cx d_M_wellFormed_7 (tgt := 24) rfl (fun hb1 => ?_) (fun hb1 => ?_)
  · refine gj_iconst (pc := 24) cx d_M_wellFormed_24 (v := nI 0) (by decide) ?_
    exact gj_zretR (pc := 25) cx hr hlk d_M_wellFormed_25 rfl (by rw [hb1]; rfl)
  · obtain ⟨b, q, hb, hq1, hq5, rfl, rfl⟩ := isIn_of hn hb1
    refine gj_lload_n (pc := 10) cx d_M_wellFormed_10 rfl (x := pp) rfl ?_
    refine gj_lconst (pc := 11) cx d_M_wellFormed_11 (v := 0) (by decide) ?_
    refine gj_lcmp_lt (pc := 12) cx d_M_wellFormed_12 d_M_wellFormed_13 (tgt := 24) rfl (fun hb2 => ?_) (fun hb2 => ?_)
    · refine gj_iconst (pc := 24) cx d_M_wellFormed_24 (v := nI 0) (by decide) ?_
      exact gj_zretR (pc := 25) cx hr hlk d_M_wellFormed_25 rfl (by rw [isIn_N hn hb hq1 hq5, xN_nI (by omega), wf_f hn (Or.inl (pn_neg hb2))]; rfl)
    · refine gj_lload_n (pc := 16) cx d_M_wellFormed_16 rfl (x := pp) rfl ?_
      refine gj_ldc2 (pc := 17) cx d_M_wellFormed_17 (v := 17179869184) (in_WT wm_414) ?_
      refine gj_lcmp_lt (pc := 20) cx d_M_wellFormed_20 d_M_wellFormed_21 (tgt := 26) rfl (fun hb3 => ?_) (fun hb3 => ?_)
      · refine gj_lload_n (pc := 26) cx d_M_wellFormed_26 rfl (x := pp) rfl ?_
        refine gj_callSRi (pc := 27) (As := [.long pp]) (rest := []) (v := nI (payN pp)) cx hK (c_M_payeeOf l D (tyl cI cJ) pp ) (va_cwS 1 cx.2.2.2.2 (good_S wm_417 wm_415 wm_416 wm_5) rfl rfl rfl (by decide +kernel) ⟨Nat.le_of_ble_eq_true rfl, Nat.le_of_ble_eq_true rfl⟩) (fun _ _ _ => gj_P0) rfl rfl (Nat.le_of_ble_eq_true rfl) d_M_wellFormed_27 ⟨Nat.zero_le _, Nat.zero_le _⟩ ?_
        have hv4 := payN_lt pp
        refine gj_aload_n (pc := 30) cx d_M_wellFormed_30 rfl (x := am 0) rfl ?_
        refine gj_get (pc := 31) (ci := 2) (C := R_M) (T := T_M) (N := 15) (v := .int (nI n)) cx hK gj_rP in_M d_M_wellFormed_31 0 rfl rfl 0 (by decide) (in_WT wm_341) rfl ?_
        refine gj_icmp_geN (pc := 34) cx d_M_wellFormed_34 (tgt := 52) rfl (by omega) (by omega) (fun hb5 => ?_) (fun hb5 => ?_)
        · refine gj_iconst (pc := 52) cx d_M_wellFormed_52 (v := nI 0) (by decide) ?_
          exact gj_zretR (pc := 53) cx hr hlk d_M_wellFormed_53 rfl (by rw [isIn_N hn hb hq1 hq5, xN_nI (by omega), wf_f hn (Or.inr (Or.inl hb5))]; rfl)
        · refine gj_lload_n (pc := 37) cx d_M_wellFormed_37 rfl (x := pp) rfl ?_
          refine gj_callSRi (pc := 38) (As := [.long pp]) (rest := []) (v := nI (payN pp)) cx hK (c_M_payeeOf l D (tyl cI cJ) pp ) (va_cwS 1 cx.2.2.2.2 (good_S wm_417 wm_415 wm_416 wm_5) rfl rfl rfl (by decide +kernel) ⟨Nat.le_of_ble_eq_true rfl, Nat.le_of_ble_eq_true rfl⟩) (fun _ _ _ => gj_P0) rfl rfl (Nat.le_of_ble_eq_true rfl) d_M_wellFormed_38 ⟨Nat.zero_le _, Nat.zero_le _⟩ ?_
          have hv6 := payN_lt pp
          refine gj_iload_n (pc := 41) cx d_M_wellFormed_41 rfl (x := nI b) rfl ?_
          refine gj_icmp_eqN (pc := 42) cx d_M_wellFormed_42 (tgt := 52) rfl (by omega) (by omega) (fun hb7 => ?_) (fun hb7 => ?_)
          · refine gj_iconst (pc := 52) cx d_M_wellFormed_52 (v := nI 0) (by decide) ?_
            exact gj_zretR (pc := 53) cx hr hlk d_M_wellFormed_53 rfl (by rw [isIn_N hn hb hq1 hq5, xN_nI (by omega), wf_f hn (Or.inr (Or.inr (Or.inl hb7)))]; rfl)
          · refine gj_lload_n (pc := 45) cx d_M_wellFormed_45 rfl (x := pp) rfl ?_
            refine gj_callSRi (pc := 46) (As := [.long pp]) (rest := []) (v := nI (amtN pp)) cx hK (c_M_amountOf l D (tyl cI cJ) pp ) (va_cwS 1 cx.2.2.2.2 (good_S wm_420 wm_418 wm_419 wm_5) rfl rfl rfl (by decide +kernel) ⟨Nat.le_of_ble_eq_true rfl, Nat.le_of_ble_eq_true rfl⟩) (fun _ _ _ => gj_P0) rfl rfl (Nat.le_of_ble_eq_true rfl) d_M_wellFormed_46 ⟨Nat.zero_le _, Nat.zero_le _⟩ ?_
            have hv8 := amtN_lt pp
            refine gj_if_neN (pc := 49) cx d_M_wellFormed_49 (tgt := 54) rfl (by omega) (fun hb9 => ?_) (fun hb9 => ?_)
            · refine gj_iconst (pc := 54) cx d_M_wellFormed_54 (v := nI 0) (by decide) ?_
              refine gj_istore (pc := 55) cx d_M_wellFormed_55 (lo' := [(5, .int (nI 0)), (0, .ref (am 0)), (1, .long pp), (3, .int (nI b)), (4, .int (nI q))]) (by decide) rfl ?_
              refine gj_pick (lo' := [(0, .ref (am 0)), (1, .long pp), (3, .int (nI b)), (4, .int (nI q)), (5, .int (nI 0))]) [1, 2, 3, 4, 0] rfl ?_
              refine gj_forH (G := Gj p l e _ s m _ below meth c _ _ _ _ _) (fun i => ∀ c, c < i → needN pp c ≤ 5 ∧ (0 < needN pp c → c ≠ b ∧ c < n)) 7 57 (fun i => [(0, .ref (am 0)), (1, .long pp), (3, .int (nI b)), (4, .int (nI q)), (5, .int (nI i))]) (fun i => rW cI cJ am n f z S) (fun i hi ihi qi => ?_) 0 (by omega) (fun c hc => absurd hc (by omega))
              refine gj_iload (pc := 57) cx d_M_wellFormed_57 (x := nI i) rfl ?_
              refine gj_bipush (pc := 59) cx d_M_wellFormed_59 (v := nI 7) (by decide) ?_
              refine gj_icmp_geN (pc := 61) cx d_M_wellFormed_61 (tgt := 106) rfl (by omega) (by omega) (fun hb10 => ?_) (fun hb10 => ?_)
              · refine gj_iconst (pc := 106) cx d_M_wellFormed_106 (v := nI 1) (by decide) ?_
                exact gj_zretR (pc := 107) cx hr hlk d_M_wellFormed_107 rfl (by rw [isIn_N hn hb hq1 hq5, xN_nI (by omega), wf_all hn (pn_small hb2 hb3) (fun c hc => qi c (by omega)) hb hb5 hb7 hb9]; rfl)
              · refine gj_lload_n (pc := 64) cx d_M_wellFormed_64 rfl (x := pp) rfl ?_
                refine gj_iload (pc := 65) cx d_M_wellFormed_65 (x := nI i) rfl ?_
                refine gj_callSRi (pc := 67) (As := [.long pp, .int (nI i)]) (rest := []) (v := nI (needN pp i)) cx hK (c_M_needOf l D (tyl cI cJ) pp i (by omega)) (va_cwS 2 cx.2.2.2.2 (good_S wm_424 wm_422 wm_423 wm_5) rfl rfl rfl (by decide +kernel) ⟨Nat.le_of_ble_eq_true rfl, Nat.le_of_ble_eq_true rfl⟩) (fun _ _ _ => gj_P0) rfl rfl (Nat.le_of_ble_eq_true rfl) d_M_wellFormed_67 ⟨Nat.zero_le _, Nat.zero_le _⟩ ?_
                have hv11 := needN_lt pp i
                refine gj_istore (pc := 70) cx d_M_wellFormed_70 (lo' := [(6, .int (nI (needN pp i))), (0, .ref (am 0)), (1, .long pp), (3, .int (nI b)), (4, .int (nI q)), (5, .int (nI i))]) (by decide) rfl ?_
                refine gj_iload (pc := 72) cx d_M_wellFormed_72 (x := nI (needN pp i)) rfl ?_
                refine gj_iconst (pc := 74) cx d_M_wellFormed_74 (v := nI 5) (by decide) ?_
                refine gj_icmp_gtN (pc := 75) cx d_M_wellFormed_75 (tgt := 98) rfl (by omega) (by omega) (fun hb12 => ?_) (fun hb12 => ?_)
                · refine gj_iconst (pc := 98) cx d_M_wellFormed_98 (v := nI 0) (by decide) ?_
                  exact gj_zretR (pc := 99) cx hr hlk d_M_wellFormed_99 rfl (by rw [isIn_N hn hb hq1 hq5, xN_nI (by omega), wf_f hn (Or.inr (Or.inr (Or.inr (Or.inr ⟨i, fun z => by omega⟩))))]; rfl)
                · refine gj_iload (pc := 78) cx d_M_wellFormed_78 (x := nI (needN pp i)) rfl ?_
                  refine gj_if_leN (pc := 80) cx d_M_wellFormed_80 (tgt := 100) rfl (by omega) (fun hb13 => ?_) (fun hb13 => ?_)
                  · refine gj_iincN (pc := 100) cx d_M_wellFormed_100 (k := 5) (d := 1) (lo' := [(5, .int (nI (i + 1))), (6, .int (nI (needN pp i))), (0, .ref (am 0)), (1, .long pp), (3, .int (nI b)), (4, .int (nI q))]) rfl (by decide) (by decide) rfl ?_
                    refine gj_goto (pc := 103) cx d_M_wellFormed_103 (tgt := 57) rfl ?_
                    refine gj_pick (lo' := [(0, .ref (am 0)), (1, .long pp), (3, .int (nI b)), (4, .int (nI q)), (5, .int (nI (i + 1)))]) [2, 3, 4, 5, 0] rfl ?_
                    exact gj_eq rfl (rfl) rfl (rfl) (ihi (by omega) (lt_s qi ⟨by omega, fun z => ⟨by omega, by omega⟩⟩))
                  · refine gj_iload (pc := 83) cx d_M_wellFormed_83 (x := nI i) rfl ?_
                    refine gj_iload_n (pc := 85) cx d_M_wellFormed_85 rfl (x := nI b) rfl ?_
                    refine gj_icmp_eqN (pc := 86) cx d_M_wellFormed_86 (tgt := 98) rfl (by omega) (by omega) (fun hb14 => ?_) (fun hb14 => ?_)
                    · refine gj_iconst (pc := 98) cx d_M_wellFormed_98 (v := nI 0) (by decide) ?_
                      exact gj_zretR (pc := 99) cx hr hlk d_M_wellFormed_99 rfl (by rw [isIn_N hn hb hq1 hq5, xN_nI (by omega), wf_f hn (Or.inr (Or.inr (Or.inr (Or.inr ⟨i, fun z => by omega⟩))))]; rfl)
                    · refine gj_iload (pc := 89) cx d_M_wellFormed_89 (x := nI i) rfl ?_
                      refine gj_aload_n (pc := 91) cx d_M_wellFormed_91 rfl (x := am 0) rfl ?_
                      refine gj_get (pc := 92) (ci := 2) (C := R_M) (T := T_M) (N := 15) (v := .int (nI n)) cx hK gj_rP in_M d_M_wellFormed_92 0 rfl rfl 0 (by decide) (in_WT wm_341) rfl ?_
                      refine gj_icmp_ltN (pc := 95) cx d_M_wellFormed_95 (tgt := 100) rfl (by omega) (by omega) (fun hb15 => ?_) (fun hb15 => ?_)
                      · refine gj_iincN (pc := 100) cx d_M_wellFormed_100 (k := 5) (d := 1) (lo' := [(5, .int (nI (i + 1))), (6, .int (nI (needN pp i))), (0, .ref (am 0)), (1, .long pp), (3, .int (nI b)), (4, .int (nI q))]) rfl (by decide) (by decide) rfl ?_
                        refine gj_goto (pc := 103) cx d_M_wellFormed_103 (tgt := 57) rfl ?_
                        refine gj_pick (lo' := [(0, .ref (am 0)), (1, .long pp), (3, .int (nI b)), (4, .int (nI q)), (5, .int (nI (i + 1)))]) [2, 3, 4, 5, 0] rfl ?_
                        exact gj_eq rfl (rfl) rfl (rfl) (ihi (by omega) (lt_s qi ⟨by omega, fun z => ⟨by omega, by omega⟩⟩))
                      · refine gj_iconst (pc := 98) cx d_M_wellFormed_98 (v := nI 0) (by decide) ?_
                        exact gj_zretR (pc := 99) cx hr hlk d_M_wellFormed_99 rfl (by rw [isIn_N hn hb hq1 hq5, xN_nI (by omega), wf_f hn (Or.inr (Or.inr (Or.inr (Or.inr ⟨i, fun z => by omega⟩))))]; rfl)
            · refine gj_iconst (pc := 52) cx d_M_wellFormed_52 (v := nI 0) (by decide) ?_
              exact gj_zretR (pc := 53) cx hr hlk d_M_wellFormed_53 rfl (by rw [isIn_N hn hb hq1 hq5, xN_nI (by omega), wf_f hn (Or.inr (Or.inr (Or.inr (Or.inl hb9))))]; rfl)
      · refine gj_iconst (pc := 24) cx d_M_wellFormed_24 (v := nI 0) (by decide) ?_
        exact gj_zretR (pc := 25) cx hr hlk d_M_wellFormed_25 rfl (by rw [isIn_N hn hb hq1 hq5, xN_nI (by omega), wf_f hn (Or.inl (pn_big hb2 hb3))]; rfl)

set_option maxRecDepth 100000 in
set_option maxHeartbeats 4000000 in
theorem c_M_isMark (l : Launch) (D : va_G) (cI cJ : ClassId) (am : Nat → Nat) (n f : Nat) (z : Int64) (S : RS) (pp : Int64) (hn : n ≤ 7) : MRi l y_M_isMark (wsM y_M_isMark b_M_isMark 4 (some .boolean)) { frames := 0, cells := 0, slots := 0, locals := 0 } D vwK (tyl cI cJ) (rW cI cJ am n f z S) [.ref (am 0), .long pp] (bI (isMk pp n)) := by
  refine gj_enterR (own := R_M) (by decide) rfl (Nat.le_of_ble_eq_true rfl) rfl rfl (fun p e s m below meth c cx hr hlk hK => ?_)
  refine gj_lload_n (pc := 0) cx d_M_isMark_0 rfl (x := pp) rfl ?_
  refine gj_lconst (pc := 1) cx d_M_isMark_1 (v := 0) (by decide) ?_
  refine gj_lcmp_lt (pc := 2) cx d_M_isMark_2 d_M_isMark_3 (tgt := 19) rfl (fun hb1 => ?_) (fun hb1 => ?_)
  · refine gj_iconst (pc := 19) cx d_M_isMark_19 (v := nI 0) (by decide) ?_
    exact gj_zretR (pc := 20) cx hr hlk d_M_isMark_20 rfl (by rw [isMk_neg hn hb1]; rfl)
  · refine gj_lload_n (pc := 6) cx d_M_isMark_6 rfl (x := pp) rfl ?_
    refine gj_lconst (pc := 7) cx d_M_isMark_7 (v := 1) (by decide) ?_
    refine gj_iconst (pc := 8) cx d_M_isMark_8 (v := nI 3) (by decide) ?_
    refine gj_aload_n (pc := 9) cx d_M_isMark_9 rfl (x := am 0) rfl ?_
    refine gj_get (pc := 10) (ci := 2) (C := R_M) (T := T_M) (N := 15) (v := .int (nI n)) cx hK gj_rP in_M d_M_isMark_10 0 rfl rfl 0 (by decide) (in_WT wm_341) rfl ?_
    refine gj_imulN (pc := 13) cx d_M_isMark_13 ?_
    refine gj_lshl (pc := 14) cx d_M_isMark_14 rfl ?_
    refine gj_tol (y := lN (2 ^ (3 * n))) (px_one hn) ?_
    refine gj_lcmp_lt (pc := 15) cx d_M_isMark_15 d_M_isMark_16 (tgt := 21) rfl (fun hb2 => ?_) (fun hb2 => ?_)
    · refine gj_iconst (pc := 21) cx d_M_isMark_21 (v := nI 0) (by decide) ?_
      refine gj_istore_n (pc := 22) cx d_M_isMark_22 rfl (lo' := [(3, .int (nI 0)), (0, .ref (am 0)), (1, .long pp)]) (by decide) rfl ?_
      refine gj_pick (lo' := [(0, .ref (am 0)), (1, .long pp), (3, .int (nI 0))]) [1, 2, 0] rfl ?_
      refine gj_forH (G := Gj p l e _ s m _ below meth c _ _ _ _ _) (fun i => allB (fun c => decide (digN pp c ≤ 5)) i = true) n 23 (fun i => [(0, .ref (am 0)), (1, .long pp), (3, .int (nI i))]) (fun i => rW cI cJ am n f z S) (fun i hi ihi qi => ?_) 0 (by omega) (rfl)
      refine gj_iload_n (pc := 23) cx d_M_isMark_23 rfl (x := nI i) rfl ?_
      refine gj_aload_n (pc := 24) cx d_M_isMark_24 rfl (x := am 0) rfl ?_
      refine gj_get (pc := 25) (ci := 2) (C := R_M) (T := T_M) (N := 15) (v := .int (nI n)) cx hK gj_rP in_M d_M_isMark_25 0 rfl rfl 0 (by decide) (in_WT wm_341) rfl ?_
      refine gj_icmp_geN (pc := 28) cx d_M_isMark_28 (tgt := 55) rfl (by omega) (by omega) (fun hb3 => ?_) (fun hb3 => ?_)
      · refine gj_iconst (pc := 55) cx d_M_isMark_55 (v := nI 1) (by decide) ?_
        exact gj_zretR (pc := 56) cx hr hlk d_M_isMark_56 rfl (by rw [isMk_ok hb1 hb2 ((show i = n from (by omega)) ▸ qi)]; rfl)
      · refine gj_lload_n (pc := 31) cx d_M_isMark_31 rfl (x := pp) rfl ?_
        refine gj_iconst (pc := 32) cx d_M_isMark_32 (v := nI 3) (by decide) ?_
        refine gj_iload_n (pc := 33) cx d_M_isMark_33 rfl (x := nI i) rfl ?_
        refine gj_imulN (pc := 34) cx d_M_isMark_34 ?_
        refine gj_lshr (pc := 35) cx d_M_isMark_35 rfl ?_
        refine gj_ldc2 (pc := 36) cx d_M_isMark_36 (v := 7) (in_WT wm_409) ?_
        refine gj_land (pc := 39) cx d_M_isMark_39 ?_
        refine gj_tol (y := lN (digN pp i)) (px_digL pp (by omega)) ?_
        refine gj_ldc2 (pc := 40) cx d_M_isMark_40 (v := 5) (in_WT wm_410) ?_
        refine gj_lcmp_le (pc := 43) cx d_M_isMark_43 d_M_isMark_44 (tgt := 49) rfl (fun hb4 => ?_) (fun hb4 => ?_)
        · refine gj_iincN (pc := 49) cx d_M_isMark_49 (k := 2) (d := 1) (lo' := [(3, .int (nI (i + 1))), (0, .ref (am 0)), (1, .long pp)]) rfl (by decide) (by decide) rfl ?_
          refine gj_goto (pc := 52) cx d_M_isMark_52 (tgt := 23) rfl ?_
          refine gj_pick (lo' := [(0, .ref (am 0)), (1, .long pp), (3, .int (nI (i + 1)))]) [1, 2, 0] rfl ?_
          exact gj_eq rfl (rfl) rfl (rfl) (ihi (by omega) (by rw [allB, qi, Bool.true_and]; exact decide_eq_true ((lN5 (digN_lt _ _)).mp hb4)))
        · refine gj_iconst (pc := 47) cx d_M_isMark_47 (v := nI 0) (by decide) ?_
          exact gj_zretR (pc := 48) cx hr hlk d_M_isMark_48 rfl (by rw [isMk_dig hb3 (by have := mt (lN5 (digN_lt pp i)).mpr hb4; omega)]; rfl)
    · refine gj_iconst (pc := 19) cx d_M_isMark_19 (v := nI 0) (by decide) ?_
      exact gj_zretR (pc := 20) cx hr hlk d_M_isMark_20 rfl (by rw [isMk_big hn hb1 hb2]; rfl)

set_option maxRecDepth 100000 in
set_option maxHeartbeats 4000000 in
theorem c_M_count (l : Launch) (D : va_G) (cI cJ : ClassId) (am : Nat → Nat) (n f : Nat) (z : Int64) (S : RS) (x : Nat) (b : Nat) (hx : x < 7) (hb : b < 7) : MRi l y_M_count (wsM y_M_count b_M_count 5 (some .int)) { frames := 1, cells := 0, slots := 0, locals := 22 } D vwK (tyl cI cJ) (rW cI cJ am n f z S) [.ref (am 0), .int (nI x), .int (nI b)] (nI (rCnt S x b)) := by
  refine gj_enterR (own := R_M) (by decide) rfl (Nat.le_of_ble_eq_true rfl) rfl rfl (fun p e s m below meth c cx hr hlk hK => ?_)
  refine gj_iconst (pc := 0) cx d_M_count_0 (v := nI 0) (by decide) ?_
  refine gj_istore_n (pc := 1) cx d_M_count_1 rfl (lo' := [(3, .int (nI 0)), (0, .ref (am 0)), (1, .int (nI x)), (2, .int (nI b))]) (by decide) rfl ?_
  refine gj_iconst (pc := 2) cx d_M_count_2 (v := nI 1) (by decide) ?_
  refine gj_istore (pc := 3) cx d_M_count_3 (lo' := [(4, .int (nI 1)), (3, .int (nI 0)), (0, .ref (am 0)), (1, .int (nI x)), (2, .int (nI b))]) (by decide) rfl ?_
  refine gj_pick (lo' := [(0, .ref (am 0)), (1, .int (nI x)), (2, .int (nI b)), (3, .int (nI 0)), (4, .int (nI 1))]) [2, 3, 4, 1, 0] rfl ?_
  refine gj_forG (G := Gj p l e _ s m _ below meth c _ _ _ _ _) 5 5 (fun j => [(0, .ref (am 0)), (1, .int (nI x)), (2, .int (nI b)), (3, .int (nI (cntB (fun s => decide (rAp S ((x * 7 + b) * 5 + s) ≠ 0)) j))), (4, .int (nI (j + 1)))]) (fun j => rW cI cJ am n f z S) (fun j hj ihj => ?_) 0 (by omega)
  refine gj_iload (pc := 5) cx d_M_count_5 (x := nI (j + 1)) rfl ?_
  refine gj_iconst (pc := 7) cx d_M_count_7 (v := nI 5) (by decide) ?_
  refine gj_icmp_gtN (pc := 8) cx d_M_count_8 (tgt := 37) rfl (by omega) (by omega) (fun hb1 => ?_) (fun hb1 => ?_)
  · refine gj_iload_n (pc := 37) cx d_M_count_37 rfl (x := nI (cntB (fun s => decide (rAp S ((x * 7 + b) * 5 + s) ≠ 0)) j)) rfl ?_
    exact gj_iretR (pc := 38) cx hr hlk d_M_count_38 (by rw [show j = 5 from (by omega)]; rfl)
  · refine gj_aload_n (pc := 11) cx d_M_count_11 rfl (x := am 0) rfl ?_
    refine gj_get (pc := 12) (ci := 2) (C := R_M) (T := T_M) (N := 15) (v := .ref (am 7)) cx hK gj_rP in_M d_M_count_12 0 rfl rfl 9 (by decide) (in_WT wm_350) rfl ?_
    refine gj_iload_n (pc := 15) cx d_M_count_15 rfl (x := nI x) rfl ?_
    refine gj_iload_n (pc := 16) cx d_M_count_16 rfl (x := nI b) rfl ?_
    refine gj_iload (pc := 17) cx d_M_count_17 (x := nI (j + 1)) rfl ?_
    refine gj_callSRi (pc := 19) (As := [.int (nI x), .int (nI b), .int (nI (j + 1))]) (rest := [.ref (am 7)]) (v := nI ((x * 7 + b) * 5 + (j + 1) - 1)) cx hK (c_M_at l D (tyl cI cJ) x b (j + 1) (by omega)) (va_cwS 3 cx.2.2.2.2 (good_S wm_399 wm_397 wm_398 wm_5) rfl rfl rfl (by decide +kernel) ⟨Nat.le_of_ble_eq_true rfl, Nat.le_of_ble_eq_true rfl⟩) (fun _ _ _ => gj_P0) rfl rfl (Nat.le_of_ble_eq_true rfl) d_M_count_19 ⟨Nat.zero_le _, Nat.zero_le _⟩ ?_
    refine gj_toi (y := nI ((x * 7 + b) * 5 + j)) (congrArg nI (by omega)) ?_
    refine gj_lald (pc := 22) (i := (x * 7 + b) * 5 + j) (f := rAp S) cx hK gj_rP d_M_count_22 7 1 rfl rfl (by omega) (by decide) ?_
    refine gj_lconst (pc := 23) cx d_M_count_23 (v := 0) (by decide) ?_
    refine gj_lcmp_eq (pc := 24) cx d_M_count_24 d_M_count_25 (tgt := 31) rfl (fun hb2 => ?_) (fun hb2 => ?_)
    · refine gj_iincN (pc := 31) cx d_M_count_31 (k := 4) (d := 1) (lo' := [(4, .int (nI ((j + 1) + 1))), (0, .ref (am 0)), (1, .int (nI x)), (2, .int (nI b)), (3, .int (nI (cntB (fun s => decide (rAp S ((x * 7 + b) * 5 + s) ≠ 0)) j)))]) rfl (by decide) (by decide) rfl ?_
      refine gj_goto (pc := 34) cx d_M_count_34 (tgt := 5) rfl ?_
      refine gj_pick (lo' := [(0, .ref (am 0)), (1, .int (nI x)), (2, .int (nI b)), (3, .int (nI (cntB (fun s => decide (rAp S ((x * 7 + b) * 5 + s) ≠ 0)) j))), (4, .int (nI ((j + 1) + 1)))]) [1, 2, 3, 4, 0] rfl ?_
      exact gj_eq rfl (by simp [cntB, hb1, hb2]) rfl (rfl) (ihj (by omega))
    · refine gj_iincN (pc := 28) cx d_M_count_28 (k := 3) (d := 1) (lo' := [(3, .int (nI ((cntB (fun s => decide (rAp S ((x * 7 + b) * 5 + s) ≠ 0)) j) + 1))), (0, .ref (am 0)), (1, .int (nI x)), (2, .int (nI b)), (4, .int (nI (j + 1)))]) rfl (by decide) (by decide) rfl ?_
      refine gj_iincN (pc := 31) cx d_M_count_31 (k := 4) (d := 1) (lo' := [(4, .int (nI ((j + 1) + 1))), (3, .int (nI ((cntB (fun s => decide (rAp S ((x * 7 + b) * 5 + s) ≠ 0)) j) + 1))), (0, .ref (am 0)), (1, .int (nI x)), (2, .int (nI b))]) rfl (by decide) (by decide) rfl ?_
      refine gj_goto (pc := 34) cx d_M_count_34 (tgt := 5) rfl ?_
      refine gj_pick (lo' := [(0, .ref (am 0)), (1, .int (nI x)), (2, .int (nI b)), (3, .int (nI ((cntB (fun s => decide (rAp S ((x * 7 + b) * 5 + s) ≠ 0)) j) + 1))), (4, .int (nI ((j + 1) + 1)))]) [2, 3, 4, 1, 0] rfl ?_
      exact gj_eq rfl (by simp [cntB, hb1, hb2]) rfl (rfl) (ihj (by omega))

set_option maxRecDepth 100000 in
set_option maxHeartbeats 4000000 in
theorem c_M_worth (l : Launch) (D : va_G) (cI cJ : ClassId) (am : Nat → Nat) (n f : Nat) (z : Int64) (S : RS) (x : Nat) (b : Nat) (hn : n ≤ 7) (hx : x < 7) (hb : b < 7) : MRl l y_M_worth (wsM y_M_worth b_M_worth 9 (some .long)) { frames := 1, cells := 0, slots := 0, locals := 22 } D vwK (tyl cI cJ) (rW cI cJ am n f z S) [.ref (am 0), .int (nI x), .int (nI b)] (rWo (rAp S) x b z n) := by
  refine gj_enterR (own := R_M) (by decide) rfl (Nat.le_of_ble_eq_true rfl) rfl rfl (fun p e s m below meth c cx hr hlk hK => ?_)
  refine gj_aload_n (pc := 0) cx d_M_worth_0 rfl (x := am 0) rfl ?_
  refine gj_get (pc := 1) (ci := 2) (C := R_M) (T := T_M) (N := 15) (v := .long z) cx hK gj_rP in_M d_M_worth_1 0 rfl rfl 2 (by decide) (in_WT wm_343) rfl ?_
  refine gj_lstore_n (pc := 4) cx d_M_worth_4 rfl (lo' := [(3, .long z), (0, .ref (am 0)), (1, .int (nI x)), (2, .int (nI b))]) (by decide) rfl ?_
  refine gj_iconst (pc := 5) cx d_M_worth_5 (v := nI 0) (by decide) ?_
  refine gj_istore (pc := 6) cx d_M_worth_6 (lo' := [(5, .int (nI 0)), (3, .long z), (0, .ref (am 0)), (1, .int (nI x)), (2, .int (nI b))]) (by decide) rfl ?_
  refine gj_pick (lo' := [(0, .ref (am 0)), (1, .int (nI x)), (2, .int (nI b)), (3, .long z), (5, .int (nI 0))]) [2, 3, 4, 1, 0] rfl ?_
  refine gj_forG (G := Gj p l e _ s m _ below meth c _ _ _ _ _) n 8 (fun g => [(0, .ref (am 0)), (1, .int (nI x)), (2, .int (nI b)), (3, .long (rWo (rAp S) x b z g)), (5, .int (nI g))]) (fun g => rW cI cJ am n f z S) (fun g hg ihg => ?_) 0 (by omega)
  refine gj_iload (pc := 8) cx d_M_worth_8 (x := nI g) rfl ?_
  refine gj_aload_n (pc := 10) cx d_M_worth_10 rfl (x := am 0) rfl ?_
  refine gj_get (pc := 11) (ci := 2) (C := R_M) (T := T_M) (N := 15) (v := .int (nI n)) cx hK gj_rP in_M d_M_worth_11 0 rfl rfl 0 (by decide) (in_WT wm_341) rfl ?_
  refine gj_icmp_geN (pc := 14) cx d_M_worth_14 (tgt := 100) rfl (by omega) (by omega) (fun hb1 => ?_) (fun hb1 => ?_)
  · refine gj_lload_n (pc := 100) cx d_M_worth_100 rfl (x := rWo (rAp S) x b z g) rfl ?_
    exact gj_lretR (pc := 101) cx hr hlk d_M_worth_101 (by rw [show g = n from (by omega)])
  · refine gj_iconst (pc := 17) cx d_M_worth_17 (v := nI 1) (by decide) ?_
    refine gj_istore (pc := 18) cx d_M_worth_18 (lo' := [(6, .int (nI 1)), (0, .ref (am 0)), (1, .int (nI x)), (2, .int (nI b)), (3, .long (rWo (rAp S) x b z g)), (5, .int (nI g))]) (by decide) rfl ?_
    refine gj_pick (lo' := [(0, .ref (am 0)), (1, .int (nI x)), (2, .int (nI b)), (3, .long (rWo (rAp S) x b z g)), (5, .int (nI g)), (6, .int (nI 1))]) [1, 2, 3, 4, 5, 0] rfl ?_
    refine gj_forG (G := Gj p l e _ s m _ below meth c _ _ _ _ _) 5 20 (fun j => [(0, .ref (am 0)), (1, .int (nI x)), (2, .int (nI b)), (3, .long (rWs (rAp S) x b g (rWo (rAp S) x b z g) j)), (5, .int (nI g)), (6, .int (nI (j + 1)))]) (fun j => rW cI cJ am n f z S) (fun j hj ihj => ?_) 0 (by omega)
    refine gj_iload (pc := 20) cx d_M_worth_20 (x := nI (j + 1)) rfl ?_
    refine gj_iconst (pc := 22) cx d_M_worth_22 (v := nI 5) (by decide) ?_
    refine gj_icmp_gtN (pc := 23) cx d_M_worth_23 (tgt := 94) rfl (by omega) (by omega) (fun hb2 => ?_) (fun hb2 => ?_)
    · refine gj_iincN (pc := 94) cx d_M_worth_94 (k := 4) (d := 1) (lo' := [(5, .int (nI (g + 1))), (0, .ref (am 0)), (1, .int (nI x)), (2, .int (nI b)), (3, .long (rWs (rAp S) x b g (rWo (rAp S) x b z g) j)), (6, .int (nI (j + 1)))]) rfl (by decide) (by decide) rfl ?_
      refine gj_goto (pc := 97) cx d_M_worth_97 (tgt := 8) rfl ?_
      refine gj_pick (lo' := [(0, .ref (am 0)), (1, .int (nI x)), (2, .int (nI b)), (3, .long (rWs (rAp S) x b g (rWo (rAp S) x b z g) j)), (5, .int (nI (g + 1)))]) [1, 2, 3, 4, 0] rfl ?_
      exact gj_eq rfl (by rw [show j = 5 from (by omega)]; rfl) rfl (rfl) (ihg (by omega))
    · refine gj_aload_n (pc := 26) cx d_M_worth_26 rfl (x := am 0) rfl ?_
      refine gj_get (pc := 27) (ci := 2) (C := R_M) (T := T_M) (N := 15) (v := .ref (am 7)) cx hK gj_rP in_M d_M_worth_27 0 rfl rfl 9 (by decide) (in_WT wm_350) rfl ?_
      refine gj_iload_n (pc := 30) cx d_M_worth_30 rfl (x := nI x) rfl ?_
      refine gj_iload (pc := 31) cx d_M_worth_31 (x := nI g) rfl ?_
      refine gj_iload (pc := 33) cx d_M_worth_33 (x := nI (j + 1)) rfl ?_
      refine gj_callSRi (pc := 35) (As := [.int (nI x), .int (nI g), .int (nI (j + 1))]) (rest := [.ref (am 7)]) (v := nI ((x * 7 + g) * 5 + (j + 1) - 1)) cx hK (c_M_at l D (tyl cI cJ) x g (j + 1) (by omega)) (va_cwS 3 cx.2.2.2.2 (good_S wm_399 wm_397 wm_398 wm_5) rfl rfl rfl (by decide +kernel) ⟨Nat.le_of_ble_eq_true rfl, Nat.le_of_ble_eq_true rfl⟩) (fun _ _ _ => gj_P0) rfl rfl (Nat.le_of_ble_eq_true rfl) d_M_worth_35 ⟨Nat.zero_le _, Nat.zero_le _⟩ ?_
      refine gj_toi (y := nI ((x * 7 + g) * 5 + j)) (congrArg nI (by omega)) ?_
      refine gj_lald (pc := 38) (i := (x * 7 + g) * 5 + j) (f := rAp S) cx hK gj_rP d_M_worth_38 7 1 rfl rfl (by omega) (by decide) ?_
      refine gj_lstore (pc := 39) cx d_M_worth_39 (lo' := [(7, .long (rAp S ((x * 7 + g) * 5 + j))), (0, .ref (am 0)), (1, .int (nI x)), (2, .int (nI b)), (3, .long (rWs (rAp S) x b g (rWo (rAp S) x b z g) j)), (5, .int (nI g)), (6, .int (nI (j + 1)))]) (by decide) rfl ?_
      refine gj_lload (pc := 41) cx d_M_worth_41 (x := rAp S ((x * 7 + g) * 5 + j)) rfl ?_
      refine gj_lconst (pc := 43) cx d_M_worth_43 (v := 0) (by decide) ?_
      refine gj_lcmp_eq (pc := 44) cx d_M_worth_44 d_M_worth_45 (tgt := 63) rfl (fun hb3 => ?_) (fun hb3 => ?_)
      · refine gj_lload (pc := 63) cx d_M_worth_63 (x := rAp S ((x * 7 + g) * 5 + j)) rfl ?_
        refine gj_lconst (pc := 65) cx d_M_worth_65 (v := 0) (by decide) ?_
        refine gj_lcmp_eq (pc := 66) cx d_M_worth_66 d_M_worth_67 (tgt := 88) rfl (fun hb4 => ?_) (fun hb4 => absurd hb4 (fun z => z hb3))
        refine gj_iincN (pc := 88) cx d_M_worth_88 (k := 6) (d := 1) (lo' := [(6, .int (nI ((j + 1) + 1))), (7, .long (rAp S ((x * 7 + g) * 5 + j))), (0, .ref (am 0)), (1, .int (nI x)), (2, .int (nI b)), (3, .long (rWs (rAp S) x b g (rWo (rAp S) x b z g) j)), (5, .int (nI g))]) rfl (by decide) (by decide) rfl ?_
        refine gj_goto (pc := 91) cx d_M_worth_91 (tgt := 20) rfl ?_
        refine gj_pick (lo' := [(0, .ref (am 0)), (1, .int (nI x)), (2, .int (nI b)), (3, .long (rWs (rAp S) x b g (rWo (rAp S) x b z g) j)), (5, .int (nI g)), (6, .int (nI ((j + 1) + 1)))]) [2, 3, 4, 5, 6, 0] rfl ?_
        exact gj_eq rfl (by rw [rWs, wAdd_0 hb4]) rfl (rfl) (ihj (by omega))
      · refine gj_iload (pc := 48) cx d_M_worth_48 (x := nI g) rfl ?_
        refine gj_iload_n (pc := 50) cx d_M_worth_50 rfl (x := nI b) rfl ?_
        refine gj_icmp_neN (pc := 51) cx d_M_worth_51 (tgt := 63) rfl (by omega) (by omega) (fun hb5 => ?_) (fun hb5 => ?_)
        · refine gj_lload (pc := 63) cx d_M_worth_63 (x := rAp S ((x * 7 + g) * 5 + j)) rfl ?_
          refine gj_lconst (pc := 65) cx d_M_worth_65 (v := 0) (by decide) ?_
          refine gj_lcmp_eq (pc := 66) cx d_M_worth_66 d_M_worth_67 (tgt := 88) rfl (fun hb6 => absurd hb6 (hb3)) (fun hb6 => ?_)
          refine gj_lload (pc := 70) cx d_M_worth_70 (x := rAp S ((x * 7 + g) * 5 + j)) rfl ?_
          refine gj_callSRi (pc := 72) (As := [.long (rAp S ((x * 7 + g) * 5 + j))]) (rest := []) (v := nI (payN (rAp S ((x * 7 + g) * 5 + j)))) cx hK (c_M_payeeOf l D (tyl cI cJ) (rAp S ((x * 7 + g) * 5 + j)) ) (va_cwS 1 cx.2.2.2.2 (good_S wm_417 wm_415 wm_416 wm_5) rfl rfl rfl (by decide +kernel) ⟨Nat.le_of_ble_eq_true rfl, Nat.le_of_ble_eq_true rfl⟩) (fun _ _ _ => gj_P0) rfl rfl (Nat.le_of_ble_eq_true rfl) d_M_worth_72 ⟨Nat.zero_le _, Nat.zero_le _⟩ ?_
          have hv7 := payN_lt (rAp S ((x * 7 + g) * 5 + j))
          refine gj_iload_n (pc := 75) cx d_M_worth_75 rfl (x := nI b) rfl ?_
          refine gj_icmp_neN (pc := 76) cx d_M_worth_76 (tgt := 88) rfl (by omega) (by omega) (fun hb8 => ?_) (fun hb8 => ?_)
          · refine gj_iincN (pc := 88) cx d_M_worth_88 (k := 6) (d := 1) (lo' := [(6, .int (nI ((j + 1) + 1))), (7, .long (rAp S ((x * 7 + g) * 5 + j))), (0, .ref (am 0)), (1, .int (nI x)), (2, .int (nI b)), (3, .long (rWs (rAp S) x b g (rWo (rAp S) x b z g) j)), (5, .int (nI g))]) rfl (by decide) (by decide) rfl ?_
            refine gj_goto (pc := 91) cx d_M_worth_91 (tgt := 20) rfl ?_
            refine gj_pick (lo' := [(0, .ref (am 0)), (1, .int (nI x)), (2, .int (nI b)), (3, .long (rWs (rAp S) x b g (rWo (rAp S) x b z g) j)), (5, .int (nI g)), (6, .int (nI ((j + 1) + 1)))]) [2, 3, 4, 5, 6, 0] rfl ?_
            exact gj_eq rfl (by rw [rWs, wAdd_ff hb5 hb8]) rfl (rfl) (ihj (by omega))
          · refine gj_lload_n (pc := 79) cx d_M_worth_79 rfl (x := rWs (rAp S) x b g (rWo (rAp S) x b z g) j) rfl ?_
            refine gj_lload (pc := 80) cx d_M_worth_80 (x := rAp S ((x * 7 + g) * 5 + j)) rfl ?_
            refine gj_callSRi (pc := 82) (As := [.long (rAp S ((x * 7 + g) * 5 + j))]) (rest := [.long (rWs (rAp S) x b g (rWo (rAp S) x b z g) j)]) (v := nI (amtN (rAp S ((x * 7 + g) * 5 + j)))) cx hK (c_M_amountOf l D (tyl cI cJ) (rAp S ((x * 7 + g) * 5 + j)) ) (va_cwS 1 cx.2.2.2.2 (good_S wm_420 wm_418 wm_419 wm_5) rfl rfl rfl (by decide +kernel) ⟨Nat.le_of_ble_eq_true rfl, Nat.le_of_ble_eq_true rfl⟩) (fun _ _ _ => gj_P0) rfl rfl (Nat.le_of_ble_eq_true rfl) d_M_worth_82 ⟨Nat.zero_le _, Nat.zero_le _⟩ ?_
            have hv9 := amtN_lt (rAp S ((x * 7 + g) * 5 + j))
            refine gj_i2l (pc := 85) cx d_M_worth_85 rfl ?_
            refine gj_tol (y := lN (amtN (rAp S ((x * 7 + g) * 5 + j)))) (nI_l (by omega)) ?_
            refine gj_ladd (pc := 86) cx d_M_worth_86 ?_
            refine gj_lstore_n (pc := 87) cx d_M_worth_87 rfl (lo' := [(3, .long ((rWs (rAp S) x b g (rWo (rAp S) x b z g) j) + (lN (amtN (rAp S ((x * 7 + g) * 5 + j)))))), (7, .long (rAp S ((x * 7 + g) * 5 + j))), (0, .ref (am 0)), (1, .int (nI x)), (2, .int (nI b)), (5, .int (nI g)), (6, .int (nI (j + 1)))]) (by decide) rfl ?_
            refine gj_iincN (pc := 88) cx d_M_worth_88 (k := 6) (d := 1) (lo' := [(6, .int (nI ((j + 1) + 1))), (3, .long ((rWs (rAp S) x b g (rWo (rAp S) x b z g) j) + (lN (amtN (rAp S ((x * 7 + g) * 5 + j)))))), (7, .long (rAp S ((x * 7 + g) * 5 + j))), (0, .ref (am 0)), (1, .int (nI x)), (2, .int (nI b)), (5, .int (nI g))]) rfl (by decide) (by decide) rfl ?_
            refine gj_goto (pc := 91) cx d_M_worth_91 (tgt := 20) rfl ?_
            refine gj_pick (lo' := [(0, .ref (am 0)), (1, .int (nI x)), (2, .int (nI b)), (3, .long ((rWs (rAp S) x b g (rWo (rAp S) x b z g) j) + (lN (amtN (rAp S ((x * 7 + g) * 5 + j)))))), (5, .int (nI g)), (6, .int (nI ((j + 1) + 1)))]) [3, 4, 5, 1, 6, 0] rfl ?_
            exact gj_eq rfl (by rw [rWs, wAdd_ft hb6 hb5 hb8]) rfl (rfl) (ihj (by omega))
        · refine gj_lload_n (pc := 54) cx d_M_worth_54 rfl (x := rWs (rAp S) x b g (rWo (rAp S) x b z g) j) rfl ?_
          refine gj_lload (pc := 55) cx d_M_worth_55 (x := rAp S ((x * 7 + g) * 5 + j)) rfl ?_
          refine gj_callSRi (pc := 57) (As := [.long (rAp S ((x * 7 + g) * 5 + j))]) (rest := [.long (rWs (rAp S) x b g (rWo (rAp S) x b z g) j)]) (v := nI (amtN (rAp S ((x * 7 + g) * 5 + j)))) cx hK (c_M_amountOf l D (tyl cI cJ) (rAp S ((x * 7 + g) * 5 + j)) ) (va_cwS 1 cx.2.2.2.2 (good_S wm_420 wm_418 wm_419 wm_5) rfl rfl rfl (by decide +kernel) ⟨Nat.le_of_ble_eq_true rfl, Nat.le_of_ble_eq_true rfl⟩) (fun _ _ _ => gj_P0) rfl rfl (Nat.le_of_ble_eq_true rfl) d_M_worth_57 ⟨Nat.zero_le _, Nat.zero_le _⟩ ?_
          have hv10 := amtN_lt (rAp S ((x * 7 + g) * 5 + j))
          refine gj_i2l (pc := 60) cx d_M_worth_60 rfl ?_
          refine gj_tol (y := lN (amtN (rAp S ((x * 7 + g) * 5 + j)))) (nI_l (by omega)) ?_
          refine gj_lsub (pc := 61) cx d_M_worth_61 ?_
          refine gj_lstore_n (pc := 62) cx d_M_worth_62 rfl (lo' := [(3, .long ((rWs (rAp S) x b g (rWo (rAp S) x b z g) j) - (lN (amtN (rAp S ((x * 7 + g) * 5 + j)))))), (7, .long (rAp S ((x * 7 + g) * 5 + j))), (0, .ref (am 0)), (1, .int (nI x)), (2, .int (nI b)), (5, .int (nI g)), (6, .int (nI (j + 1)))]) (by decide) rfl ?_
          refine gj_lload (pc := 63) cx d_M_worth_63 (x := rAp S ((x * 7 + g) * 5 + j)) rfl ?_
          refine gj_lconst (pc := 65) cx d_M_worth_65 (v := 0) (by decide) ?_
          refine gj_lcmp_eq (pc := 66) cx d_M_worth_66 d_M_worth_67 (tgt := 88) rfl (fun hb11 => absurd hb11 (hb3)) (fun hb11 => ?_)
          refine gj_lload (pc := 70) cx d_M_worth_70 (x := rAp S ((x * 7 + g) * 5 + j)) rfl ?_
          refine gj_callSRi (pc := 72) (As := [.long (rAp S ((x * 7 + g) * 5 + j))]) (rest := []) (v := nI (payN (rAp S ((x * 7 + g) * 5 + j)))) cx hK (c_M_payeeOf l D (tyl cI cJ) (rAp S ((x * 7 + g) * 5 + j)) ) (va_cwS 1 cx.2.2.2.2 (good_S wm_417 wm_415 wm_416 wm_5) rfl rfl rfl (by decide +kernel) ⟨Nat.le_of_ble_eq_true rfl, Nat.le_of_ble_eq_true rfl⟩) (fun _ _ _ => gj_P0) rfl rfl (Nat.le_of_ble_eq_true rfl) d_M_worth_72 ⟨Nat.zero_le _, Nat.zero_le _⟩ ?_
          have hv12 := payN_lt (rAp S ((x * 7 + g) * 5 + j))
          refine gj_iload_n (pc := 75) cx d_M_worth_75 rfl (x := nI b) rfl ?_
          refine gj_icmp_neN (pc := 76) cx d_M_worth_76 (tgt := 88) rfl (by omega) (by omega) (fun hb13 => ?_) (fun hb13 => ?_)
          · refine gj_iincN (pc := 88) cx d_M_worth_88 (k := 6) (d := 1) (lo' := [(6, .int (nI ((j + 1) + 1))), (3, .long ((rWs (rAp S) x b g (rWo (rAp S) x b z g) j) - (lN (amtN (rAp S ((x * 7 + g) * 5 + j)))))), (7, .long (rAp S ((x * 7 + g) * 5 + j))), (0, .ref (am 0)), (1, .int (nI x)), (2, .int (nI b)), (5, .int (nI g))]) rfl (by decide) (by decide) rfl ?_
            refine gj_goto (pc := 91) cx d_M_worth_91 (tgt := 20) rfl ?_
            refine gj_pick (lo' := [(0, .ref (am 0)), (1, .int (nI x)), (2, .int (nI b)), (3, .long ((rWs (rAp S) x b g (rWo (rAp S) x b z g) j) - (lN (amtN (rAp S ((x * 7 + g) * 5 + j)))))), (5, .int (nI g)), (6, .int (nI ((j + 1) + 1)))]) [3, 4, 5, 1, 6, 0] rfl ?_
            exact gj_eq rfl (by rw [rWs, wAdd_tf hb11 hb5 hb13]) rfl (rfl) (ihj (by omega))
          · refine gj_lload_n (pc := 79) cx d_M_worth_79 rfl (x := (rWs (rAp S) x b g (rWo (rAp S) x b z g) j) - (lN (amtN (rAp S ((x * 7 + g) * 5 + j))))) rfl ?_
            refine gj_lload (pc := 80) cx d_M_worth_80 (x := rAp S ((x * 7 + g) * 5 + j)) rfl ?_
            refine gj_callSRi (pc := 82) (As := [.long (rAp S ((x * 7 + g) * 5 + j))]) (rest := [.long ((rWs (rAp S) x b g (rWo (rAp S) x b z g) j) - (lN (amtN (rAp S ((x * 7 + g) * 5 + j)))))]) (v := nI (amtN (rAp S ((x * 7 + g) * 5 + j)))) cx hK (c_M_amountOf l D (tyl cI cJ) (rAp S ((x * 7 + g) * 5 + j)) ) (va_cwS 1 cx.2.2.2.2 (good_S wm_420 wm_418 wm_419 wm_5) rfl rfl rfl (by decide +kernel) ⟨Nat.le_of_ble_eq_true rfl, Nat.le_of_ble_eq_true rfl⟩) (fun _ _ _ => gj_P0) rfl rfl (Nat.le_of_ble_eq_true rfl) d_M_worth_82 ⟨Nat.zero_le _, Nat.zero_le _⟩ ?_
            have hv14 := amtN_lt (rAp S ((x * 7 + g) * 5 + j))
            refine gj_i2l (pc := 85) cx d_M_worth_85 rfl ?_
            refine gj_tol (y := lN (amtN (rAp S ((x * 7 + g) * 5 + j)))) (nI_l (by omega)) ?_
            refine gj_ladd (pc := 86) cx d_M_worth_86 ?_
            refine gj_lstore_n (pc := 87) cx d_M_worth_87 rfl (lo' := [(3, .long (((rWs (rAp S) x b g (rWo (rAp S) x b z g) j) - (lN (amtN (rAp S ((x * 7 + g) * 5 + j))))) + (lN (amtN (rAp S ((x * 7 + g) * 5 + j)))))), (7, .long (rAp S ((x * 7 + g) * 5 + j))), (0, .ref (am 0)), (1, .int (nI x)), (2, .int (nI b)), (5, .int (nI g)), (6, .int (nI (j + 1)))]) (by decide) rfl ?_
            refine gj_iincN (pc := 88) cx d_M_worth_88 (k := 6) (d := 1) (lo' := [(6, .int (nI ((j + 1) + 1))), (3, .long (((rWs (rAp S) x b g (rWo (rAp S) x b z g) j) - (lN (amtN (rAp S ((x * 7 + g) * 5 + j))))) + (lN (amtN (rAp S ((x * 7 + g) * 5 + j)))))), (7, .long (rAp S ((x * 7 + g) * 5 + j))), (0, .ref (am 0)), (1, .int (nI x)), (2, .int (nI b)), (5, .int (nI g))]) rfl (by decide) (by decide) rfl ?_
            refine gj_goto (pc := 91) cx d_M_worth_91 (tgt := 20) rfl ?_
            refine gj_pick (lo' := [(0, .ref (am 0)), (1, .int (nI x)), (2, .int (nI b)), (3, .long (((rWs (rAp S) x b g (rWo (rAp S) x b z g) j) - (lN (amtN (rAp S ((x * 7 + g) * 5 + j))))) + (lN (amtN (rAp S ((x * 7 + g) * 5 + j)))))), (5, .int (nI g)), (6, .int (nI ((j + 1) + 1)))]) [3, 4, 5, 1, 6, 0] rfl ?_
            exact gj_eq rfl (by rw [rWs, wAdd_tt hb11 hb5 hb13]) rfl (rfl) (ihj (by omega))

set_option maxRecDepth 100000 in
set_option maxHeartbeats 4000000 in
theorem c_M_valid (l : Launch) (D : va_G) (cI cJ : ClassId) (am : Nat → Nat) (n f : Nat) (z : Int64) (S : RS) (x : Nat) (b : Nat) (pp : Int64) (hn : n ≤ 7) (hx : x < 7) (hb : b < 7) : MRi l y_M_valid (wsM y_M_valid b_M_valid 6 (some .boolean)) { frames := 2, cells := 0, slots := 0, locals := 50 } D vwK (tyl cI cJ) (rW cI cJ am n f z S) [.ref (am 0), .int (nI x), .int (nI b), .long pp] (bI (rVal S n z x b pp)) := by
  refine gj_enterR (own := R_M) (by decide) rfl (Nat.le_of_ble_eq_true rfl) rfl rfl (fun p e s m below meth c cx hr hlk hK => ?_)
  refine gj_iconst (pc := 0) cx d_M_valid_0 (v := nI 0) (by decide) ?_
  refine gj_istore (pc := 1) cx d_M_valid_1 (lo' := [(5, .int (nI 0)), (0, .ref (am 0)), (1, .int (nI x)), (2, .int (nI b)), (3, .long pp)]) (by decide) rfl ?_
  refine gj_pick (lo' := [(0, .ref (am 0)), (1, .int (nI x)), (2, .int (nI b)), (3, .long pp), (5, .int (nI 0))]) [1, 2, 3, 4, 0] rfl ?_
  refine gj_forH (G := Gj p l e _ s m _ below meth c _ _ _ _ _) (fun i => allB (fun b => decide (needN pp b ≤ rCnt S x b)) i = true) n 3 (fun i => [(0, .ref (am 0)), (1, .int (nI x)), (2, .int (nI b)), (3, .long pp), (5, .int (nI i))]) (fun i => rW cI cJ am n f z S) (fun i hi ihi qi => ?_) 0 (by omega) (rfl)
  refine gj_iload (pc := 3) cx d_M_valid_3 (x := nI i) rfl ?_
  refine gj_aload_n (pc := 5) cx d_M_valid_5 rfl (x := am 0) rfl ?_
  refine gj_get (pc := 6) (ci := 2) (C := R_M) (T := T_M) (N := 15) (v := .int (nI n)) cx hK gj_rP in_M d_M_valid_6 0 rfl rfl 0 (by decide) (in_WT wm_341) rfl ?_
  refine gj_icmp_geN (pc := 9) cx d_M_valid_9 (tgt := 36) rfl (by omega) (by omega) (fun hb1 => ?_) (fun hb1 => ?_)
  · refine gj_aload_n (pc := 36) cx d_M_valid_36 rfl (x := am 0) rfl ?_
    refine gj_iload_n (pc := 37) cx d_M_valid_37 rfl (x := nI x) rfl ?_
    refine gj_iload_n (pc := 38) cx d_M_valid_38 rfl (x := nI b) rfl ?_
    refine gj_callVRl (pc := 39) (As := [.int (nI x), .int (nI b)]) (rest := []) (v := rWo (rAp S) x b z n) cx hK (c_M_worth l D cI cJ am n f z S x b (by omega) (by omega) (by omega)) (cwV 2 cx.2.2.2.2 (good_V wm_464 wm_462 wm_463 wm_573 wm_5) rfl rfl rfl (by decide +kernel) ⟨Nat.le_of_ble_eq_true rfl, Nat.le_of_ble_eq_true rfl⟩) gj_rP 0 2 rfl rfl rfl rfl rfl (Nat.le_of_ble_eq_true rfl) d_M_valid_39 ⟨Nat.zero_le _, Nat.zero_le _⟩ ?_
    refine gj_lload_n (pc := 42) cx d_M_valid_42 rfl (x := pp) rfl ?_
    refine gj_callSRi (pc := 43) (As := [.long pp]) (rest := [.long (rWo (rAp S) x b z n)]) (v := nI (amtN pp)) cx hK (c_M_amountOf l D (tyl cI cJ) pp ) (va_cwS 1 cx.2.2.2.2 (good_S wm_420 wm_418 wm_419 wm_5) rfl rfl rfl (by decide +kernel) ⟨Nat.le_of_ble_eq_true rfl, Nat.le_of_ble_eq_true rfl⟩) (fun _ _ _ => gj_P0) rfl rfl (Nat.le_of_ble_eq_true rfl) d_M_valid_43 ⟨Nat.zero_le _, Nat.zero_le _⟩ ?_
    have hv2 := amtN_lt pp
    refine gj_i2l (pc := 46) cx d_M_valid_46 rfl ?_
    refine gj_tol (y := lN (amtN pp)) (nI_l (by omega)) ?_
    refine gj_lcmp_lt (pc := 47) cx d_M_valid_47 d_M_valid_48 (tgt := 55) rfl (fun hb3 => ?_) (fun hb3 => ?_)
    · refine gj_iconst (pc := 55) cx d_M_valid_55 (v := nI 0) (by decide) ?_
      exact gj_zretR (pc := 56) cx hr hlk d_M_valid_56 rfl (by rw [rVal, decide_eq_false (Int64.not_le.mpr hb3), Bool.and_false]; rfl)
    · refine gj_iconst (pc := 51) cx d_M_valid_51 (v := nI 1) (by decide) ?_
      refine gj_goto (pc := 52) cx d_M_valid_52 (tgt := 56) rfl ?_
      exact gj_zretR (pc := 56) cx hr hlk d_M_valid_56 rfl (by rw [rVal, show allB (fun b => decide (needN pp b ≤ rCnt S x b)) n = true from (show i = n from (by omega)) ▸ qi, decide_eq_true (Int64.not_lt.mp hb3)]; rfl)
  · refine gj_lload_n (pc := 12) cx d_M_valid_12 rfl (x := pp) rfl ?_
    refine gj_iload (pc := 13) cx d_M_valid_13 (x := nI i) rfl ?_
    refine gj_callSRi (pc := 15) (As := [.long pp, .int (nI i)]) (rest := []) (v := nI (needN pp i)) cx hK (c_M_needOf l D (tyl cI cJ) pp i (by omega)) (va_cwS 2 cx.2.2.2.2 (good_S wm_424 wm_422 wm_423 wm_5) rfl rfl rfl (by decide +kernel) ⟨Nat.le_of_ble_eq_true rfl, Nat.le_of_ble_eq_true rfl⟩) (fun _ _ _ => gj_P0) rfl rfl (Nat.le_of_ble_eq_true rfl) d_M_valid_15 ⟨Nat.zero_le _, Nat.zero_le _⟩ ?_
    have hv4 := needN_lt pp i
    refine gj_aload_n (pc := 18) cx d_M_valid_18 rfl (x := am 0) rfl ?_
    refine gj_iload_n (pc := 19) cx d_M_valid_19 rfl (x := nI x) rfl ?_
    refine gj_iload (pc := 20) cx d_M_valid_20 (x := nI i) rfl ?_
    refine gj_callVRi (pc := 22) (As := [.int (nI x), .int (nI i)]) (rest := [.int (nI (needN pp i))]) (v := nI (rCnt S x i)) cx hK (c_M_count l D cI cJ am n f z S x i (by omega) (by omega)) (cwV 2 cx.2.2.2.2 (good_V wm_455 wm_453 wm_454 wm_570 wm_5) rfl rfl rfl (by decide +kernel) ⟨Nat.le_of_ble_eq_true rfl, Nat.le_of_ble_eq_true rfl⟩) gj_rP 0 2 rfl rfl rfl rfl rfl (Nat.le_of_ble_eq_true rfl) d_M_valid_22 ⟨Nat.zero_le _, Nat.zero_le _⟩ ?_
    have hv5 := rCnt_lt S x i
    refine gj_icmp_leN (pc := 25) cx d_M_valid_25 (tgt := 30) rfl (by omega) (by omega) (fun hb6 => ?_) (fun hb6 => ?_)
    · refine gj_iincN (pc := 30) cx d_M_valid_30 (k := 4) (d := 1) (lo' := [(5, .int (nI (i + 1))), (0, .ref (am 0)), (1, .int (nI x)), (2, .int (nI b)), (3, .long pp)]) rfl (by decide) (by decide) rfl ?_
      refine gj_goto (pc := 33) cx d_M_valid_33 (tgt := 3) rfl ?_
      refine gj_pick (lo' := [(0, .ref (am 0)), (1, .int (nI x)), (2, .int (nI b)), (3, .long pp), (5, .int (nI (i + 1)))]) [1, 2, 3, 4, 0] rfl ?_
      exact gj_eq rfl (rfl) rfl (rfl) (ihi (by omega) (by simp [allB, qi, hb1, hb6]))
    · refine gj_iconst (pc := 28) cx d_M_valid_28 (v := nI 0) (by decide) ?_
      exact gj_zretR (pc := 29) cx hr hlk d_M_valid_29 rfl (by rw [rVal, allB_f hb1 (by simpa using hb6)]; rfl)

set_option maxRecDepth 100000 in
set_option maxHeartbeats 4000000 in
theorem c_M_fall (l : Launch) (D : va_G) (cI cJ : ClassId) (am : Nat → Nat) (n f : Nat) (z : Int64) (S : RS) (x : Nat) (hx : x < 7) (sz : Nat) : MWv l y_M_fall (wsM y_M_fall b_M_fall 3 none) { frames := 0, cells := 0, slots := 0, locals := 0 } D vwK (tyl cI cJ) (rW cI cJ am n f z S) (rW cI cJ am n f z (rFall S x)) sz [.ref (am 0), .int (nI x)] := by
  refine gj_enterW (own := R_M) (by decide) rfl (Nat.le_of_ble_eq_true rfl) rfl rfl (fun p e s m below meth c cx hr hlk hK hsz => ?_)
  have hA : ∀ q, s.heap.size ≤ q → va_A (rW cI cJ am n f z S) sz q := fun q h => Or.inr (hsz ▸ h)
  refine gj_aload_n (pc := 0) cx d_M_fall_0 rfl (x := am 0) rfl ?_
  refine gj_get (pc := 1) (ci := 2) (C := R_M) (T := T_M) (N := 15) (v := .ref (am 1)) cx hK gj_wP in_M d_M_fall_1 0 rfl rfl 3 (by decide) (in_WT wm_344) rfl ?_
  refine gj_iload_n (pc := 4) cx d_M_fall_4 rfl (x := nI x) rfl ?_
  refine gj_iconst (pc := 5) cx d_M_fall_5 (v := nI 1) (by decide) ?_
  refine gj_iastN (pc := 6) (i := x) (f := rSt S) (x := 1) (ws' := rW cI cJ am n f z (va_up (rSt S) x 1, rFu S, rSu S, rOw S, rEc S, rRe S, rAp S, rFr S, rMa S, rHe S, rHm S, rAc S)) cx hK d_M_fall_6 1 0 rfl rfl (by omega) (by decide) rfl ?_
  refine gj_aload_n (pc := 7) cx d_M_fall_7 rfl (x := am 0) rfl ?_
  refine gj_get (pc := 8) (ci := 2) (C := R_M) (T := T_M) (N := 15) (v := .ref (am 2)) cx hK gj_wP in_M d_M_fall_8 0 rfl rfl 4 (by decide) (in_WT wm_345) rfl ?_
  refine gj_iload_n (pc := 11) cx d_M_fall_11 rfl (x := nI x) rfl ?_
  refine gj_iconst (pc := 12) cx d_M_fall_12 (v := nI 0) (by decide) ?_
  refine gj_iastN (pc := 13) (i := x) (f := rFu S) (x := 0) (ws' := rW cI cJ am n f z (va_up (rSt S) x 1, va_up (rFu S) x 0, rSu S, rOw S, rEc S, rRe S, rAp S, rFr S, rMa S, rHe S, rHm S, rAc S)) cx hK d_M_fall_13 2 0 rfl rfl (by omega) (by decide) rfl ?_
  refine gj_sipush (pc := 14) cx d_M_fall_14 (v := nI 735) (by decide) ?_
  refine gj_iload_n (pc := 17) cx d_M_fall_17 rfl (x := nI x) rfl ?_
  refine gj_imulN (pc := 18) cx d_M_fall_18 ?_
  refine gj_istore_n (pc := 19) cx d_M_fall_19 rfl (lo' := [(2, .int (nI (735 * x))), (0, .ref (am 0)), (1, .int (nI x))]) (by decide) rfl ?_
  refine gj_eq (w' := rW cI cJ am n f z (va_up (rSt S) x 1, va_up (rFu S) x 0, rSu S, rOw S, rEc S, rRe S, rAp S, rFr S, rMa S, blk (rHe S) (735 * x) 0 0, rHm S, rAc S)) rfl rfl rfl (by rw [blk_0]) ?_
  refine gj_pick (lo' := [(0, .ref (am 0)), (1, .int (nI x)), (2, .int (nI (735 * x)))]) [1, 2, 0] rfl ?_
  refine gj_forG (G := Gj p l e _ s m _ below meth c _ _ _ _ _) 735 20 (fun j => [(0, .ref (am 0)), (1, .int (nI x)), (2, .int (nI (735 * x + j)))]) (fun j => rW cI cJ am n f z (va_up (rSt S) x 1, va_up (rFu S) x 0, rSu S, rOw S, rEc S, rRe S, rAp S, rFr S, rMa S, blk (rHe S) (735 * x) j 0, rHm S, rAc S)) (fun j hj ihj => ?_) 0 (by omega)
  refine gj_iload_n (pc := 20) cx d_M_fall_20 rfl (x := nI (735 * x + j)) rfl ?_
  refine gj_sipush (pc := 21) cx d_M_fall_21 (v := nI 735) (by decide) ?_
  refine gj_iload_n (pc := 24) cx d_M_fall_24 rfl (x := nI x) rfl ?_
  refine gj_imulN (pc := 25) cx d_M_fall_25 ?_
  refine gj_sipush (pc := 26) cx d_M_fall_26 (v := nI 735) (by decide) ?_
  refine gj_iaddN (pc := 29) cx d_M_fall_29 ?_
  refine gj_icmp_geN (pc := 30) cx d_M_fall_30 (tgt := 46) rfl (by omega) (by omega) (fun hb1 => ?_) (fun hb1 => ?_)
  · obtain rfl : j = 735 := by omega
    refine gj_bipush (pc := 46) cx d_M_fall_46 (v := nI 7) (by decide) ?_
    refine gj_iload_n (pc := 48) cx d_M_fall_48 rfl (x := nI x) rfl ?_
    refine gj_imulN (pc := 49) cx d_M_fall_49 ?_
    refine gj_istore_n (pc := 50) cx d_M_fall_50 rfl (lo' := [(2, .int (nI (7 * x))), (0, .ref (am 0)), (1, .int (nI x))]) (by decide) rfl ?_
    refine gj_eq (w' := rW cI cJ am n f z (va_up (rSt S) x 1, va_up (rFu S) x 0, rSu S, rOw S, rEc S, rRe S, rAp S, rFr S, rMa S, blk (rHe S) (735 * x) 735 0, blk (rHm S) (7 * x) 0 0, rAc S)) rfl rfl rfl (by rw [blk_0]) ?_
    refine gj_pick (lo' := [(0, .ref (am 0)), (1, .int (nI x)), (2, .int (nI (7 * x)))]) [1, 2, 0] rfl ?_
    refine gj_forG (G := Gj p l e _ s m _ below meth c _ _ _ _ _) 7 51 (fun j => [(0, .ref (am 0)), (1, .int (nI x)), (2, .int (nI (7 * x + j)))]) (fun j => rW cI cJ am n f z (va_up (rSt S) x 1, va_up (rFu S) x 0, rSu S, rOw S, rEc S, rRe S, rAp S, rFr S, rMa S, blk (rHe S) (735 * x) 735 0, blk (rHm S) (7 * x) j 0, rAc S)) (fun j hj ihj => ?_) 0 (by omega)
    refine gj_iload_n (pc := 51) cx d_M_fall_51 rfl (x := nI (7 * x + j)) rfl ?_
    refine gj_bipush (pc := 52) cx d_M_fall_52 (v := nI 7) (by decide) ?_
    refine gj_iload_n (pc := 54) cx d_M_fall_54 rfl (x := nI x) rfl ?_
    refine gj_imulN (pc := 55) cx d_M_fall_55 ?_
    refine gj_bipush (pc := 56) cx d_M_fall_56 (v := nI 7) (by decide) ?_
    refine gj_iaddN (pc := 58) cx d_M_fall_58 ?_
    refine gj_icmp_geN (pc := 59) cx d_M_fall_59 (tgt := 75) rfl (by omega) (by omega) (fun hb2 => ?_) (fun hb2 => ?_)
    · obtain rfl : j = 7 := by omega
      refine gj_bipush (pc := 75) cx d_M_fall_75 (v := nI 35) (by decide) ?_
      refine gj_iload_n (pc := 77) cx d_M_fall_77 rfl (x := nI x) rfl ?_
      refine gj_imulN (pc := 78) cx d_M_fall_78 ?_
      refine gj_istore_n (pc := 79) cx d_M_fall_79 rfl (lo' := [(2, .int (nI (35 * x))), (0, .ref (am 0)), (1, .int (nI x))]) (by decide) rfl ?_
      refine gj_eq (w' := rW cI cJ am n f z (va_up (rSt S) x 1, va_up (rFu S) x 0, rSu S, rOw S, rEc S, rRe S, rAp S, rFr S, rMa S, blk (rHe S) (735 * x) 735 0, blk (rHm S) (7 * x) 7 0, blk (rAc S) (35 * x) 0 0)) rfl rfl rfl (by rw [blk_0]) ?_
      refine gj_pick (lo' := [(0, .ref (am 0)), (1, .int (nI x)), (2, .int (nI (35 * x)))]) [1, 2, 0] rfl ?_
      refine gj_forG (G := Gj p l e _ s m _ below meth c _ _ _ _ _) 35 80 (fun j => [(0, .ref (am 0)), (1, .int (nI x)), (2, .int (nI (35 * x + j)))]) (fun j => rW cI cJ am n f z (va_up (rSt S) x 1, va_up (rFu S) x 0, rSu S, rOw S, rEc S, rRe S, rAp S, rFr S, rMa S, blk (rHe S) (735 * x) 735 0, blk (rHm S) (7 * x) 7 0, blk (rAc S) (35 * x) j 0)) (fun j hj ihj => ?_) 0 (by omega)
      refine gj_iload_n (pc := 80) cx d_M_fall_80 rfl (x := nI (35 * x + j)) rfl ?_
      refine gj_bipush (pc := 81) cx d_M_fall_81 (v := nI 35) (by decide) ?_
      refine gj_iload_n (pc := 83) cx d_M_fall_83 rfl (x := nI x) rfl ?_
      refine gj_imulN (pc := 84) cx d_M_fall_84 ?_
      refine gj_bipush (pc := 85) cx d_M_fall_85 (v := nI 35) (by decide) ?_
      refine gj_iaddN (pc := 87) cx d_M_fall_87 ?_
      refine gj_icmp_geN (pc := 88) cx d_M_fall_88 (tgt := 104) rfl (by omega) (by omega) (fun hb3 => ?_) (fun hb3 => ?_)
      · exact gj_vretW (pc := 104) cx hr hlk d_M_fall_104 (by rw [show j = 35 from (by omega)]; rfl)
      · refine gj_aload_n (pc := 91) cx d_M_fall_91 rfl (x := am 0) rfl ?_
        refine gj_get (pc := 92) (ci := 2) (C := R_M) (T := T_M) (N := 15) (v := .ref (am 12)) cx hK gj_wP in_M d_M_fall_92 0 rfl rfl 14 (by decide) (in_WT wm_355) rfl ?_
        refine gj_iload_n (pc := 95) cx d_M_fall_95 rfl (x := nI (35 * x + j)) rfl ?_
        refine gj_lconst (pc := 96) cx d_M_fall_96 (v := 0) (by decide) ?_
        refine gj_last (pc := 97) (i := 35 * x + j) (f := blk (rAc S) (35 * x) j 0) (x := 0) (ws' := rW cI cJ am n f z (va_up (rSt S) x 1, va_up (rFu S) x 0, rSu S, rOw S, rEc S, rRe S, rAp S, rFr S, rMa S, blk (rHe S) (735 * x) 735 0, blk (rHm S) (7 * x) 7 0, va_up (blk (rAc S) (35 * x) j 0) (35 * x + j) 0)) cx hK d_M_fall_97 12 1 rfl rfl (by omega) (by decide) rfl ?_
        refine gj_iincN (pc := 98) cx d_M_fall_98 (k := 2) (d := 1) (lo' := [(2, .int (nI ((35 * x + j) + 1))), (0, .ref (am 0)), (1, .int (nI x))]) rfl (by decide) (by decide) rfl ?_
        refine gj_goto (pc := 101) cx d_M_fall_101 (tgt := 80) rfl ?_
        refine gj_pick (lo' := [(0, .ref (am 0)), (1, .int (nI x)), (2, .int (nI ((35 * x + j) + 1)))]) [1, 2, 0] rfl ?_
        exact gj_eq rfl (rfl) rfl (by rw [blk_up]) (ihj (by omega))
    · refine gj_aload_n (pc := 62) cx d_M_fall_62 rfl (x := am 0) rfl ?_
      refine gj_get (pc := 63) (ci := 2) (C := R_M) (T := T_M) (N := 15) (v := .ref (am 11)) cx hK gj_wP in_M d_M_fall_63 0 rfl rfl 13 (by decide) (in_WT wm_354) rfl ?_
      refine gj_iload_n (pc := 66) cx d_M_fall_66 rfl (x := nI (7 * x + j)) rfl ?_
      refine gj_iconst (pc := 67) cx d_M_fall_67 (v := nI 0) (by decide) ?_
      refine gj_iastN (pc := 68) (i := 7 * x + j) (f := blk (rHm S) (7 * x) j 0) (x := 0) (ws' := rW cI cJ am n f z (va_up (rSt S) x 1, va_up (rFu S) x 0, rSu S, rOw S, rEc S, rRe S, rAp S, rFr S, rMa S, blk (rHe S) (735 * x) 735 0, va_up (blk (rHm S) (7 * x) j 0) (7 * x + j) 0, rAc S)) cx hK d_M_fall_68 11 0 rfl rfl (by omega) (by decide) rfl ?_
      refine gj_iincN (pc := 69) cx d_M_fall_69 (k := 2) (d := 1) (lo' := [(2, .int (nI ((7 * x + j) + 1))), (0, .ref (am 0)), (1, .int (nI x))]) rfl (by decide) (by decide) rfl ?_
      refine gj_goto (pc := 72) cx d_M_fall_72 (tgt := 51) rfl ?_
      refine gj_pick (lo' := [(0, .ref (am 0)), (1, .int (nI x)), (2, .int (nI ((7 * x + j) + 1)))]) [1, 2, 0] rfl ?_
      exact gj_eq rfl (rfl) rfl (by rw [blk_up]) (ihj (by omega))
  · refine gj_aload_n (pc := 33) cx d_M_fall_33 rfl (x := am 0) rfl ?_
    refine gj_get (pc := 34) (ci := 2) (C := R_M) (T := T_M) (N := 15) (v := .ref (am 10)) cx hK gj_wP in_M d_M_fall_34 0 rfl rfl 12 (by decide) (in_WT wm_353) rfl ?_
    refine gj_iload_n (pc := 37) cx d_M_fall_37 rfl (x := nI (735 * x + j)) rfl ?_
    refine gj_lconst (pc := 38) cx d_M_fall_38 (v := 0) (by decide) ?_
    refine gj_last (pc := 39) (i := 735 * x + j) (f := blk (rHe S) (735 * x) j 0) (x := 0) (ws' := rW cI cJ am n f z (va_up (rSt S) x 1, va_up (rFu S) x 0, rSu S, rOw S, rEc S, rRe S, rAp S, rFr S, rMa S, va_up (blk (rHe S) (735 * x) j 0) (735 * x + j) 0, rHm S, rAc S)) cx hK d_M_fall_39 10 1 rfl rfl (by omega) (by decide) rfl ?_
    refine gj_iincN (pc := 40) cx d_M_fall_40 (k := 2) (d := 1) (lo' := [(2, .int (nI ((735 * x + j) + 1))), (0, .ref (am 0)), (1, .int (nI x))]) rfl (by decide) (by decide) rfl ?_
    refine gj_goto (pc := 43) cx d_M_fall_43 (tgt := 20) rfl ?_
    refine gj_pick (lo' := [(0, .ref (am 0)), (1, .int (nI x)), (2, .int (nI ((735 * x + j) + 1)))]) [1, 2, 0] rfl ?_
    exact gj_eq rfl (rfl) rfl (by rw [blk_up]) (ihj (by omega))

set_option maxRecDepth 100000 in
set_option maxHeartbeats 4000000 in
theorem c_M_burns (l : Launch) (D : va_G) (cI cJ : ClassId) (am : Nat → Nat) (n f : Nat) (z : Int64) (S : RS) (x : Nat) (hx : x < 7) (hok : rOk S) (sz : Nat) : MWi l y_M_burns (wsM y_M_burns b_M_burns 2 (some .boolean)) { frames := 1, cells := 0, slots := 0, locals := 22 } D vwK (tyl cI cJ) (rW cI cJ am n f z S) (rW cI cJ am n f z (rBurn S x)) sz [.ref (am 0), .int (nI x)] (bI (rBn S x)) := by
  refine gj_enterW (own := R_M) (by decide) rfl (Nat.le_of_ble_eq_true rfl) rfl rfl (fun p e s m below meth c cx hr hlk hK hsz => ?_)
  have hA : ∀ q, s.heap.size ≤ q → va_A (rW cI cJ am n f z S) sz q := fun q h => Or.inr (hsz ▸ h)
  refine gj_aload_n (pc := 0) cx d_M_burns_0 rfl (x := am 0) rfl ?_
  refine gj_get (pc := 1) (ci := 2) (C := R_M) (T := T_M) (N := 15) (v := .ref (am 2)) cx hK gj_wP in_M d_M_burns_1 0 rfl rfl 4 (by decide) (in_WT wm_345) rfl ?_
  refine gj_iload_n (pc := 4) cx d_M_burns_4 rfl (x := nI x) rfl ?_
  refine gj_ialdN (pc := 5) (i := x) (f := rFu S) cx hK gj_wP d_M_burns_5 2 0 rfl rfl (by omega) (by decide) ?_
  have hv1 := hok.2.1 x
  refine gj_if_neN (pc := 6) cx d_M_burns_6 (tgt := 11) rfl (by omega) (fun hb2 => ?_) (fun hb2 => ?_)
  · refine gj_aload_n (pc := 11) cx d_M_burns_11 rfl (x := am 0) rfl ?_
    refine gj_get (pc := 12) (ci := 2) (C := R_M) (T := T_M) (N := 15) (v := .ref (am 2)) cx hK gj_wP in_M d_M_burns_12 0 rfl rfl 4 (by decide) (in_WT wm_345) rfl ?_
    refine gj_iload_n (pc := 15) cx d_M_burns_15 rfl (x := nI x) rfl ?_
    refine gj_dup2_11 (pc := 16) cx d_M_burns_16 rfl rfl ?_
    refine gj_ialdN (pc := 17) (i := x) (f := rFu S) cx hK gj_wP d_M_burns_17 2 0 rfl rfl (by omega) (by decide) ?_
    have hv3 := hok.2.1 x
    refine gj_iconst (pc := 18) cx d_M_burns_18 (v := nI 1) (by decide) ?_
    refine gj_isubN (pc := 19) cx d_M_burns_19 (by omega) ?_
    refine gj_iastN (pc := 20) (i := x) (f := rFu S) (x := (rFu S x) - 1) (ws' := rW cI cJ am n f z (rSt S, va_up (rFu S) x ((rFu S x) - 1), rSu S, rOw S, rEc S, rRe S, rAp S, rFr S, rMa S, rHe S, rHm S, rAc S)) cx hK d_M_burns_20 2 0 rfl rfl (by omega) (by decide) rfl ?_
    refine gj_aload_n (pc := 21) cx d_M_burns_21 rfl (x := am 0) rfl ?_
    refine gj_get (pc := 22) (ci := 2) (C := R_M) (T := T_M) (N := 15) (v := .ref (am 2)) cx hK gj_wP in_M d_M_burns_22 0 rfl rfl 4 (by decide) (in_WT wm_345) rfl ?_
    refine gj_iload_n (pc := 25) cx d_M_burns_25 rfl (x := nI x) rfl ?_
    refine gj_ialdN (pc := 26) (i := x) (f := va_up (rFu S) x ((rFu S x) - 1)) cx hK gj_wP d_M_burns_26 2 0 rfl rfl (by omega) (by decide) ?_
    refine gj_toi (y := nI (rFu S x - 1)) (congrArg nI (if_pos rfl)) ?_
    refine gj_if_leN (pc := 27) cx d_M_burns_27 (tgt := 32) rfl (by omega) (fun hb4 => ?_) (fun hb4 => ?_)
    · refine gj_aload_n (pc := 32) cx d_M_burns_32 rfl (x := am 0) rfl ?_
      refine gj_iload_n (pc := 33) cx d_M_burns_33 rfl (x := nI x) rfl ?_
      refine gj_callVWv (pc := 34) (As := [.int (nI x)]) (rest := []) (ws' := rW cI cJ am n f z (rFall (rSt S, va_up (rFu S) x ((rFu S x) - 1), rSu S, rOw S, rEc S, rRe S, rAp S, rFr S, rMa S, rHe S, rHm S, rAc S) x)) cx hK hA (fun sz => c_M_fall l D cI cJ am n f z (rSt S, va_up (rFu S) x ((rFu S x) - 1), rSu S, rOw S, rEc S, rRe S, rAp S, rFr S, rMa S, rHe S, rHm S, rAc S) x (by omega) sz) (cwV 1 cx.2.2.2.2 (good_V wm_449 wm_447 wm_448 wm_568 wm_5) rfl rfl rfl (by decide +kernel) ⟨Nat.le_of_ble_eq_true rfl, Nat.le_of_ble_eq_true rfl⟩) gj_J.self 0 2 rfl rfl rfl rfl rfl (Nat.le_of_ble_eq_true rfl) d_M_burns_34 ⟨Nat.zero_le _, Nat.zero_le _⟩ ?_
      refine gj_iconst (pc := 37) cx d_M_burns_37 (v := nI 1) (by decide) ?_
      exact gj_zretW (pc := 38) cx hr hlk d_M_burns_38 rfl (by simp [rBn, show rFu S x = 1 from (by omega), bI, nI]) (by rw [rBurn_1 (by omega), rFall_up])
    · refine gj_iconst (pc := 30) cx d_M_burns_30 (v := nI 0) (by decide) ?_
      exact gj_zretW (pc := 31) cx hr hlk d_M_burns_31 rfl (by simp [rBn, show ¬ rFu S x = 1 from (by omega), bI, nI]) (by rw [rBurn, if_neg (by omega)])
  · refine gj_iconst (pc := 9) cx d_M_burns_9 (v := nI 0) (by decide) ?_
    exact gj_zretW (pc := 10) cx hr hlk d_M_burns_10 rfl (by simp [rBn, hb2, bI, nI]) (by rw [rBurn_0 hb2])
