/-! Contracts of Topic and Paper, laid by wip/gen/m_tp.py -/
set_option maxRecDepth 100000 in
set_option maxHeartbeats 4000000 in
theorem c_T_of (l : Launch) (D : va_G) (tys : List (ClassId × FieldType)) (k : Nat) (b : Nat) (sq : Nat) (hs : 1 ≤ (k * 7 + b) * 5 + sq) : MRi l y_T_of (wsM y_T_of b_T_of 3 (some .int)) { frames := 0, cells := 0, slots := 0, locals := 0 } D vwK tys ([]) [.int (nI k), .int (nI b), .int (nI sq)] (nI ((k * 7 + b) * 5 + sq - 1)) := by
  refine gj_enterR (own := R_T) (by decide) rfl (Nat.le_of_ble_eq_true rfl) rfl rfl (fun p e s m below meth c cx hr hlk hK => ?_)
  refine gj_iload_n (pc := 0) cx d_T_of_0 rfl (x := nI k) rfl ?_
  refine gj_bipush (pc := 1) cx d_T_of_1 (v := nI 7) (by decide) ?_
  refine gj_imulN (pc := 3) cx d_T_of_3 ?_
  refine gj_iload_n (pc := 4) cx d_T_of_4 rfl (x := nI b) rfl ?_
  refine gj_iaddN (pc := 5) cx d_T_of_5 ?_
  refine gj_iconst (pc := 6) cx d_T_of_6 (v := nI 5) (by decide) ?_
  refine gj_imulN (pc := 7) cx d_T_of_7 ?_
  refine gj_iload_n (pc := 8) cx d_T_of_8 rfl (x := nI sq) rfl ?_
  refine gj_iaddN (pc := 9) cx d_T_of_9 ?_
  refine gj_iconst (pc := 10) cx d_T_of_10 (v := nI 1) (by decide) ?_
  refine gj_isubN (pc := 11) cx d_T_of_11 (by omega) ?_
  exact gj_iretR (pc := 12) cx hr hlk d_T_of_12 (rfl)

set_option maxRecDepth 100000 in
set_option maxHeartbeats 4000000 in
theorem c_T_at (l : Launch) (D : va_G) (tys : List (ClassId × FieldType)) (k : Nat) (i : Nat)  : MRi l y_T_at (wsM y_T_at b_T_at 2 (some .int)) { frames := 0, cells := 0, slots := 0, locals := 0 } D vwK tys ([]) [.int (nI k), .int (nI i)] (nI (k * 35 + i)) := by
  refine gj_enterR (own := R_T) (by decide) rfl (Nat.le_of_ble_eq_true rfl) rfl rfl (fun p e s m below meth c cx hr hlk hK => ?_)
  refine gj_iload_n (pc := 0) cx d_T_at_0 rfl (x := nI k) rfl ?_
  refine gj_bipush (pc := 1) cx d_T_at_1 (v := nI 35) (by decide) ?_
  refine gj_imulN (pc := 3) cx d_T_at_3 ?_
  refine gj_iload_n (pc := 4) cx d_T_at_4 rfl (x := nI i) rfl ?_
  refine gj_iaddN (pc := 5) cx d_T_at_5 ?_
  exact gj_iretR (pc := 6) cx hr hlk d_T_at_6 (rfl)

set_option maxRecDepth 100000 in
set_option maxHeartbeats 4000000 in
theorem c_T_kind (l : Launch) (D : va_G) (tys : List (ClassId × FieldType)) (t : Nat) (ht : t < 2147483648) : MRi l y_T_kind (wsM y_T_kind b_T_kind 1 (some .int)) { frames := 0, cells := 0, slots := 0, locals := 0 } D vwK tys ([]) [.int (nI t)] (nI (t / 35)) := by
  refine gj_enterR (own := R_T) (by decide) rfl (Nat.le_of_ble_eq_true rfl) rfl rfl (fun p e s m below meth c cx hr hlk hK => ?_)
  refine gj_iload_n (pc := 0) cx d_T_kind_0 rfl (x := nI t) rfl ?_
  refine gj_bipush (pc := 1) cx d_T_kind_1 (v := nI 35) (by decide) ?_
  refine gj_idivN (pc := 3) cx d_T_kind_3 (by omega) (by omega) (by omega) ?_
  exact gj_iretR (pc := 4) cx hr hlk d_T_kind_4 (rfl)

set_option maxRecDepth 100000 in
set_option maxHeartbeats 4000000 in
theorem c_T_instance (l : Launch) (D : va_G) (tys : List (ClassId × FieldType)) (t : Nat) (ht : t < 2147483648) : MRi l y_T_instance (wsM y_T_instance b_T_instance 1 (some .int)) { frames := 0, cells := 0, slots := 0, locals := 0 } D vwK tys ([]) [.int (nI t)] (nI (t % 35)) := by
  refine gj_enterR (own := R_T) (by decide) rfl (Nat.le_of_ble_eq_true rfl) rfl rfl (fun p e s m below meth c cx hr hlk hK => ?_)
  refine gj_iload_n (pc := 0) cx d_T_instance_0 rfl (x := nI t) rfl ?_
  refine gj_bipush (pc := 1) cx d_T_instance_1 (v := nI 35) (by decide) ?_
  refine gj_iremN (pc := 3) cx d_T_instance_3 (by omega) (by omega) (by omega) ?_
  exact gj_iretR (pc := 4) cx hr hlk d_T_instance_4 (rfl)

set_option maxRecDepth 100000 in
set_option maxHeartbeats 4000000 in
theorem c_T_account (l : Launch) (D : va_G) (tys : List (ClassId × FieldType)) (t : Nat) (ht : t < 2147483648) : MRi l y_T_account (wsM y_T_account b_T_account 1 (some .int)) { frames := 0, cells := 0, slots := 0, locals := 0 } D vwK tys ([]) [.int (nI t)] (nI (t % 35 / 5)) := by
  refine gj_enterR (own := R_T) (by decide) rfl (Nat.le_of_ble_eq_true rfl) rfl rfl (fun p e s m below meth c cx hr hlk hK => ?_)
  refine gj_iload_n (pc := 0) cx d_T_account_0 rfl (x := nI t) rfl ?_
  refine gj_bipush (pc := 1) cx d_T_account_1 (v := nI 35) (by decide) ?_
  refine gj_iremN (pc := 3) cx d_T_account_3 (by omega) (by omega) (by omega) ?_
  refine gj_iconst (pc := 4) cx d_T_account_4 (v := nI 5) (by decide) ?_
  refine gj_idivN (pc := 5) cx d_T_account_5 (by omega) (by omega) (by omega) ?_
  exact gj_iretR (pc := 6) cx hr hlk d_T_account_6 (rfl)

set_option maxRecDepth 100000 in
set_option maxHeartbeats 4000000 in
theorem c_T_seq (l : Launch) (D : va_G) (tys : List (ClassId × FieldType)) (t : Nat) (ht : t < 2147483648) : MRi l y_T_seq (wsM y_T_seq b_T_seq 1 (some .int)) { frames := 0, cells := 0, slots := 0, locals := 0 } D vwK tys ([]) [.int (nI t)] (nI (t % 5 + 1)) := by
  refine gj_enterR (own := R_T) (by decide) rfl (Nat.le_of_ble_eq_true rfl) rfl rfl (fun p e s m below meth c cx hr hlk hK => ?_)
  refine gj_iload_n (pc := 0) cx d_T_seq_0 rfl (x := nI t) rfl ?_
  refine gj_iconst (pc := 1) cx d_T_seq_1 (v := nI 5) (by decide) ?_
  refine gj_iremN (pc := 2) cx d_T_seq_2 (by omega) (by omega) (by omega) ?_
  refine gj_iconst (pc := 3) cx d_T_seq_3 (v := nI 1) (by decide) ?_
  refine gj_iaddN (pc := 4) cx d_T_seq_4 ?_
  exact gj_iretR (pc := 5) cx hr hlk d_T_seq_5 (rfl)

set_option maxRecDepth 100000 in
set_option maxHeartbeats 4000000 in
theorem c_P_payee (l : Launch) (D : va_G) (tys : List (ClassId × FieldType)) (pp : Int64)  : MRi l y_P_payee (wsM y_P_payee b_P_payee 2 (some .int)) { frames := 0, cells := 0, slots := 0, locals := 0 } D vwK tys ([]) [.long pp] (nI (payN pp)) := by
  refine gj_enterR (own := R_P) (by decide) rfl (Nat.le_of_ble_eq_true rfl) rfl rfl (fun p e s m below meth c cx hr hlk hK => ?_)
  refine gj_lload_n (pc := 0) cx d_P_payee_0 rfl (x := pp) rfl ?_
  refine gj_ldc2 (pc := 1) cx d_P_payee_1 (v := 7) (in_WT wm_104) ?_
  refine gj_land (pc := 4) cx d_P_payee_4 ?_
  refine gj_l2i (pc := 5) cx d_P_payee_5 rfl ?_
  refine gj_toi (y := nI (payN pp)) (px_pay pp) ?_
  exact gj_iretR (pc := 6) cx hr hlk d_P_payee_6 (rfl)

set_option maxRecDepth 100000 in
set_option maxHeartbeats 4000000 in
theorem c_P_amount (l : Launch) (D : va_G) (tys : List (ClassId × FieldType)) (pp : Int64)  : MRi l y_P_amount (wsM y_P_amount b_P_amount 2 (some .int)) { frames := 0, cells := 0, slots := 0, locals := 0 } D vwK tys ([]) [.long pp] (nI (amtN pp)) := by
  refine gj_enterR (own := R_P) (by decide) rfl (Nat.le_of_ble_eq_true rfl) rfl rfl (fun p e s m below meth c cx hr hlk hK => ?_)
  refine gj_lload_n (pc := 0) cx d_P_amount_0 rfl (x := pp) rfl ?_
  refine gj_iconst (pc := 1) cx d_P_amount_1 (v := nI 3) (by decide) ?_
  refine gj_lshr (pc := 2) cx d_P_amount_2 rfl ?_
  refine gj_ldc2 (pc := 3) cx d_P_amount_3 (v := 1023) (in_WT wm_94) ?_
  refine gj_land (pc := 6) cx d_P_amount_6 ?_
  refine gj_l2i (pc := 7) cx d_P_amount_7 rfl ?_
  refine gj_toi (y := nI (amtN pp)) (px_amt pp) ?_
  exact gj_iretR (pc := 8) cx hr hlk d_P_amount_8 (rfl)

set_option maxRecDepth 100000 in
set_option maxHeartbeats 4000000 in
theorem c_P_need (l : Launch) (D : va_G) (tys : List (ClassId × FieldType)) (pp : Int64) (b : Nat) (hb : b < 7) : MRi l y_P_need (wsM y_P_need b_P_need 3 (some .int)) { frames := 0, cells := 0, slots := 0, locals := 0 } D vwK tys ([]) [.long pp, .int (nI b)] (nI (needN pp b)) := by
  refine gj_enterR (own := R_P) (by decide) rfl (Nat.le_of_ble_eq_true rfl) rfl rfl (fun p e s m below meth c cx hr hlk hK => ?_)
  refine gj_lload_n (pc := 0) cx d_P_need_0 rfl (x := pp) rfl ?_
  refine gj_bipush (pc := 1) cx d_P_need_1 (v := nI 13) (by decide) ?_
  refine gj_iconst (pc := 3) cx d_P_need_3 (v := nI 3) (by decide) ?_
  refine gj_iload_n (pc := 4) cx d_P_need_4 rfl (x := nI b) rfl ?_
  refine gj_imulN (pc := 5) cx d_P_need_5 ?_
  refine gj_iaddN (pc := 6) cx d_P_need_6 ?_
  refine gj_lshr (pc := 7) cx d_P_need_7 rfl ?_
  refine gj_ldc2 (pc := 8) cx d_P_need_8 (v := 7) (in_WT wm_104) ?_
  refine gj_land (pc := 11) cx d_P_need_11 ?_
  refine gj_l2i (pc := 12) cx d_P_need_12 rfl ?_
  refine gj_toi (y := nI (needN pp b)) (px_need pp hb) ?_
  exact gj_iretR (pc := 13) cx hr hlk d_P_need_13 (rfl)

set_option maxRecDepth 100000 in
set_option maxHeartbeats 4000000 in
theorem c_P_digit (l : Launch) (D : va_G) (tys : List (ClassId × FieldType)) (pp : Int64) (b : Nat) (hb : b < 7) : MRi l y_P_digit (wsM y_P_digit b_P_digit 3 (some .int)) { frames := 0, cells := 0, slots := 0, locals := 0 } D vwK tys ([]) [.long pp, .int (nI b)] (nI (digN pp b)) := by
  refine gj_enterR (own := R_P) (by decide) rfl (Nat.le_of_ble_eq_true rfl) rfl rfl (fun p e s m below meth c cx hr hlk hK => ?_)
  refine gj_lload_n (pc := 0) cx d_P_digit_0 rfl (x := pp) rfl ?_
  refine gj_iconst (pc := 1) cx d_P_digit_1 (v := nI 3) (by decide) ?_
  refine gj_iload_n (pc := 2) cx d_P_digit_2 rfl (x := nI b) rfl ?_
  refine gj_imulN (pc := 3) cx d_P_digit_3 ?_
  refine gj_lshr (pc := 4) cx d_P_digit_4 rfl ?_
  refine gj_ldc2 (pc := 5) cx d_P_digit_5 (v := 7) (in_WT wm_104) ?_
  refine gj_land (pc := 8) cx d_P_digit_8 ?_
  refine gj_l2i (pc := 9) cx d_P_digit_9 rfl ?_
  refine gj_toi (y := nI (digN pp b)) (px_dig pp hb) ?_
  exact gj_iretR (pc := 10) cx hr hlk d_P_digit_10 (rfl)

set_option maxRecDepth 100000 in
set_option maxHeartbeats 4000000 in
theorem c_P_make (l : Launch) (D : va_G) (tys : List (ClassId × FieldType)) (pay : Nat) (amt : Nat) (ll : Int64) (nd : Nat) (hp : pay < 8) (ha : amt < 1024) (hd : nd < 2097152) (hl : ll = lN nd) : MRl l y_P_make (wsM y_P_make b_P_make 4 (some .long)) { frames := 0, cells := 0, slots := 0, locals := 0 } D vwK tys ([]) [.int (nI pay), .int (nI amt), .long ll] (lN (pay + 8 * amt + 8192 * nd)) := by
  refine gj_enterR (own := R_P) (by decide) rfl (Nat.le_of_ble_eq_true rfl) rfl rfl (fun p e s m below meth c cx hr hlk hK => ?_)
  refine gj_iload_n (pc := 0) cx d_P_make_0 rfl (x := nI pay) rfl ?_
  refine gj_i2l (pc := 1) cx d_P_make_1 rfl ?_
  refine gj_iload_n (pc := 2) cx d_P_make_2 rfl (x := nI amt) rfl ?_
  refine gj_i2l (pc := 3) cx d_P_make_3 rfl ?_
  refine gj_iconst (pc := 4) cx d_P_make_4 (v := nI 3) (by decide) ?_
  refine gj_lshl (pc := 5) cx d_P_make_5 rfl ?_
  refine gj_lor (pc := 6) cx d_P_make_6 ?_
  refine gj_lload_n (pc := 7) cx d_P_make_7 rfl (x := ll) rfl ?_
  refine gj_bipush (pc := 8) cx d_P_make_8 (v := nI 13) (by decide) ?_
  refine gj_lshl (pc := 10) cx d_P_make_10 rfl ?_
  refine gj_lor (pc := 11) cx d_P_make_11 ?_
  exact gj_lretR (pc := 12) cx hr hlk d_P_make_12 (hl ▸ px_make hp ha hd)

set_option maxRecDepth 100000 in
set_option maxHeartbeats 4000000 in
theorem c_P_isMark (l : Launch) (D : va_G) (tys : List (ClassId × FieldType)) (dd : Int64) (n : Nat) (hn : n ≤ 7) : MRi l y_P_isMark (wsM y_P_isMark b_P_isMark 4 (some .boolean)) { frames := 1, cells := 0, slots := 0, locals := 22 } D vwK tys ([]) [.long dd, .int (nI n)] (bI (isMk dd n)) := by
  refine gj_enterR (own := R_P) (by decide) rfl (Nat.le_of_ble_eq_true rfl) rfl rfl (fun p e s m below meth c cx hr hlk hK => ?_)
  refine gj_lload_n (pc := 0) cx d_P_isMark_0 rfl (x := dd) rfl ?_
  refine gj_lconst (pc := 1) cx d_P_isMark_1 (v := 0) (by decide) ?_
  refine gj_lcmp_lt (pc := 2) cx d_P_isMark_2 d_P_isMark_3 (tgt := 16) rfl (fun hb1 => ?_) (fun hb1 => ?_)
  · refine gj_iconst (pc := 16) cx d_P_isMark_16 (v := nI 0) (by decide) ?_
    exact gj_zretR (pc := 17) cx hr hlk d_P_isMark_17 rfl (by rw [isMk_neg hn hb1]; rfl)
  · refine gj_lload_n (pc := 6) cx d_P_isMark_6 rfl (x := dd) rfl ?_
    refine gj_lconst (pc := 7) cx d_P_isMark_7 (v := 1) (by decide) ?_
    refine gj_iconst (pc := 8) cx d_P_isMark_8 (v := nI 3) (by decide) ?_
    refine gj_iload_n (pc := 9) cx d_P_isMark_9 rfl (x := nI n) rfl ?_
    refine gj_imulN (pc := 10) cx d_P_isMark_10 ?_
    refine gj_lshl (pc := 11) cx d_P_isMark_11 rfl ?_
    refine gj_tol (y := lN (2 ^ (3 * n))) (px_one hn) ?_
    refine gj_lcmp_lt (pc := 12) cx d_P_isMark_12 d_P_isMark_13 (tgt := 18) rfl (fun hb2 => ?_) (fun hb2 => ?_)
    · refine gj_iconst (pc := 18) cx d_P_isMark_18 (v := nI 0) (by decide) ?_
      refine gj_istore_n (pc := 19) cx d_P_isMark_19 rfl (lo' := [(3, .int (nI 0)), (0, .long dd), (2, .int (nI n))]) (by decide) rfl ?_
      refine gj_pick (lo' := [(0, .long dd), (2, .int (nI n)), (3, .int (nI 0))]) [1, 2, 0] rfl ?_
      refine gj_forH (G := Gj p l e _ s m _ below meth c _ _ _ _ _) (fun i => allB (fun c => decide (digN dd c ≤ 5)) i = true) n 20 (fun i => [(0, .long dd), (2, .int (nI n)), (3, .int (nI i))]) (fun i => []) (fun i hi ihi qi => ?_) 0 (by omega) (rfl)
      refine gj_iload_n (pc := 20) cx d_P_isMark_20 rfl (x := nI i) rfl ?_
      refine gj_iload_n (pc := 21) cx d_P_isMark_21 rfl (x := nI n) rfl ?_
      refine gj_icmp_geN (pc := 22) cx d_P_isMark_22 (tgt := 42) rfl (by omega) (by omega) (fun hb3 => ?_) (fun hb3 => ?_)
      · refine gj_iconst (pc := 42) cx d_P_isMark_42 (v := nI 1) (by decide) ?_
        exact gj_zretR (pc := 43) cx hr hlk d_P_isMark_43 rfl (by rw [isMk_ok hb1 hb2 ((show i = n from (by omega)) ▸ qi)]; rfl)
      · refine gj_lload_n (pc := 25) cx d_P_isMark_25 rfl (x := dd) rfl ?_
        refine gj_iload_n (pc := 26) cx d_P_isMark_26 rfl (x := nI i) rfl ?_
        refine gj_callSRi (pc := 27) (As := [.long dd, .int (nI i)]) (rest := []) (v := nI (digN dd i)) cx hK (c_P_digit l D tys dd i (by omega)) (va_cwS 2 cx.2.2.2.2 (good_S wm_151 wm_149 wm_150 wm_7) rfl rfl rfl (by decide +kernel) ⟨Nat.le_of_ble_eq_true rfl, Nat.le_of_ble_eq_true rfl⟩) (fun _ _ _ => gj_P0) rfl rfl (Nat.le_of_ble_eq_true rfl) d_P_isMark_27 ⟨Nat.zero_le _, Nat.zero_le _⟩ ?_
        have hv4 := digN_lt dd i
        refine gj_iconst (pc := 30) cx d_P_isMark_30 (v := nI 5) (by decide) ?_
        refine gj_icmp_leN (pc := 31) cx d_P_isMark_31 (tgt := 36) rfl (by omega) (by omega) (fun hb5 => ?_) (fun hb5 => ?_)
        · refine gj_iincN (pc := 36) cx d_P_isMark_36 (k := 2) (d := 1) (lo' := [(3, .int (nI (i + 1))), (0, .long dd), (2, .int (nI n))]) rfl (by decide) (by decide) rfl ?_
          refine gj_goto (pc := 39) cx d_P_isMark_39 (tgt := 20) rfl ?_
          refine gj_pick (lo' := [(0, .long dd), (2, .int (nI n)), (3, .int (nI (i + 1)))]) [1, 2, 0] rfl ?_
          exact gj_eq rfl (rfl) rfl (rfl) (ihi (by omega) (by simp [allB, qi, hb3, hb5]))
        · refine gj_iconst (pc := 34) cx d_P_isMark_34 (v := nI 0) (by decide) ?_
          exact gj_zretR (pc := 35) cx hr hlk d_P_isMark_35 rfl (by rw [isMk_dig hb3 hb5]; rfl)
    · refine gj_iconst (pc := 16) cx d_P_isMark_16 (v := nI 0) (by decide) ?_
      exact gj_zretR (pc := 17) cx hr hlk d_P_isMark_17 rfl (by rw [isMk_big hn hb1 hb2]; rfl)

set_option maxRecDepth 100000 in
set_option maxHeartbeats 4000000 in
theorem c_P_isWellFormed (l : Launch) (D : va_G) (tys : List (ClassId × FieldType)) (pp : Int64) (b : Nat) (n : Nat) (hb : b < 7) (hn : n ≤ 7) : MRi l y_P_isWellFormed (wsM y_P_isWellFormed b_P_isWellFormed 4 (some .boolean)) { frames := 2, cells := 0, slots := 0, locals := 45 } D vwK tys ([]) [.long pp, .int (nI b), .int (nI n)] (bI (wfP pp b n)) := by
  refine gj_enterR (own := R_P) (by decide) rfl (Nat.le_of_ble_eq_true rfl) rfl rfl (fun p e s m below meth c cx hr hlk hK => ?_)
  refine gj_lload_n (pc := 0) cx d_P_isWellFormed_0 rfl (x := pp) rfl ?_
  refine gj_callSRi (pc := 1) (As := [.long pp]) (rest := []) (v := nI (payN pp)) cx hK (c_P_payee l D tys pp ) (va_cwS 1 cx.2.2.2.2 (good_S wm_103 wm_158 wm_102 wm_7) rfl rfl rfl (by decide +kernel) ⟨Nat.le_of_ble_eq_true rfl, Nat.le_of_ble_eq_true rfl⟩) (fun _ _ _ => gj_P0) rfl rfl (Nat.le_of_ble_eq_true rfl) d_P_isWellFormed_1 ⟨Nat.zero_le _, Nat.zero_le _⟩ ?_
  have hv1 := payN_lt pp
  refine gj_iload_n (pc := 4) cx d_P_isWellFormed_4 rfl (x := nI n) rfl ?_
  refine gj_icmp_geN (pc := 5) cx d_P_isWellFormed_5 (tgt := 23) rfl (by omega) (by omega) (fun hb2 => ?_) (fun hb2 => ?_)
  · refine gj_iconst (pc := 23) cx d_P_isWellFormed_23 (v := nI 0) (by decide) ?_
    exact gj_zretR (pc := 24) cx hr hlk d_P_isWellFormed_24 rfl (by rw [wfP_f hn (by first | exact Or.inl hb2 | exact Or.inr (Or.inl hb2) | exact Or.inr (Or.inr (Or.inl hb2)) | exact Or.inr (Or.inr (Or.inr (Or.inl hb2))) | exact Or.inr (Or.inr (Or.inr (Or.inr hb2))))]; rfl)
  · refine gj_lload_n (pc := 8) cx d_P_isWellFormed_8 rfl (x := pp) rfl ?_
    refine gj_callSRi (pc := 9) (As := [.long pp]) (rest := []) (v := nI (payN pp)) cx hK (c_P_payee l D tys pp ) (va_cwS 1 cx.2.2.2.2 (good_S wm_103 wm_158 wm_102 wm_7) rfl rfl rfl (by decide +kernel) ⟨Nat.le_of_ble_eq_true rfl, Nat.le_of_ble_eq_true rfl⟩) (fun _ _ _ => gj_P0) rfl rfl (Nat.le_of_ble_eq_true rfl) d_P_isWellFormed_9 ⟨Nat.zero_le _, Nat.zero_le _⟩ ?_
    have hv3 := payN_lt pp
    refine gj_iload_n (pc := 12) cx d_P_isWellFormed_12 rfl (x := nI b) rfl ?_
    refine gj_icmp_eqN (pc := 13) cx d_P_isWellFormed_13 (tgt := 23) rfl (by omega) (by omega) (fun hb4 => ?_) (fun hb4 => ?_)
    · refine gj_iconst (pc := 23) cx d_P_isWellFormed_23 (v := nI 0) (by decide) ?_
      exact gj_zretR (pc := 24) cx hr hlk d_P_isWellFormed_24 rfl (by rw [wfP_f hn (by first | exact Or.inl hb4 | exact Or.inr (Or.inl hb4) | exact Or.inr (Or.inr (Or.inl hb4)) | exact Or.inr (Or.inr (Or.inr (Or.inl hb4))) | exact Or.inr (Or.inr (Or.inr (Or.inr hb4))))]; rfl)
    · refine gj_lload_n (pc := 16) cx d_P_isWellFormed_16 rfl (x := pp) rfl ?_
      refine gj_callSRi (pc := 17) (As := [.long pp]) (rest := []) (v := nI (amtN pp)) cx hK (c_P_amount l D tys pp ) (va_cwS 1 cx.2.2.2.2 (good_S wm_93 wm_159 wm_92 wm_7) rfl rfl rfl (by decide +kernel) ⟨Nat.le_of_ble_eq_true rfl, Nat.le_of_ble_eq_true rfl⟩) (fun _ _ _ => gj_P0) rfl rfl (Nat.le_of_ble_eq_true rfl) d_P_isWellFormed_17 ⟨Nat.zero_le _, Nat.zero_le _⟩ ?_
      have hv5 := amtN_lt pp
      refine gj_if_neN (pc := 20) cx d_P_isWellFormed_20 (tgt := 25) rfl (by omega) (fun hb6 => ?_) (fun hb6 => ?_)
      · refine gj_lload_n (pc := 25) cx d_P_isWellFormed_25 rfl (x := pp) rfl ?_
        refine gj_iload_n (pc := 26) cx d_P_isWellFormed_26 rfl (x := nI b) rfl ?_
        refine gj_callSRi (pc := 27) (As := [.long pp, .int (nI b)]) (rest := []) (v := nI (needN pp b)) cx hK (c_P_need l D tys pp b (by omega)) (va_cwS 2 cx.2.2.2.2 (good_S wm_162 wm_160 wm_161 wm_7) rfl rfl rfl (by decide +kernel) ⟨Nat.le_of_ble_eq_true rfl, Nat.le_of_ble_eq_true rfl⟩) (fun _ _ _ => gj_P0) rfl rfl (Nat.le_of_ble_eq_true rfl) d_P_isWellFormed_27 ⟨Nat.zero_le _, Nat.zero_le _⟩ ?_
        have hv7 := needN_lt pp b
        refine gj_if_neN (pc := 30) cx d_P_isWellFormed_30 (tgt := 48) rfl (by omega) (fun hb8 => ?_) (fun hb8 => ?_)
        · refine gj_iconst (pc := 48) cx d_P_isWellFormed_48 (v := nI 0) (by decide) ?_
          exact gj_zretR (pc := 49) cx hr hlk d_P_isWellFormed_49 rfl (by rw [wfP_f hn (by first | exact Or.inl hb8 | exact Or.inr (Or.inl hb8) | exact Or.inr (Or.inr (Or.inl hb8)) | exact Or.inr (Or.inr (Or.inr (Or.inl hb8))) | exact Or.inr (Or.inr (Or.inr (Or.inr hb8))))]; rfl)
        · refine gj_lload_n (pc := 33) cx d_P_isWellFormed_33 rfl (x := pp) rfl ?_
          refine gj_bipush (pc := 34) cx d_P_isWellFormed_34 (v := nI 13) (by decide) ?_
          refine gj_lshr (pc := 36) cx d_P_isWellFormed_36 rfl ?_
          refine gj_iload_n (pc := 37) cx d_P_isWellFormed_37 rfl (x := nI n) rfl ?_
          refine gj_callSRi (pc := 38) (As := [.long (pp >>> ((nI 13).toInt64 &&& 63)), .int (nI n)]) (rest := []) (v := bI (isMk (pp >>> ((nI 13).toInt64 &&& 63)) n)) cx hK (c_P_isMark l D tys (pp >>> ((nI 13).toInt64 &&& 63)) n (by omega)) (va_cwS 2 cx.2.2.2.2 (good_S wm_148 wm_163 wm_147 wm_7) rfl rfl rfl (by decide +kernel) ⟨Nat.le_of_ble_eq_true rfl, Nat.le_of_ble_eq_true rfl⟩) (fun _ _ _ => gj_P0) rfl rfl (Nat.le_of_ble_eq_true rfl) d_P_isWellFormed_38 ⟨Nat.zero_le _, Nat.zero_le _⟩ ?_
          refine gj_if_eqB (pc := 41) cx d_P_isWellFormed_41 (tgt := 48) rfl (fun hb9 => ?_) (fun hb9 => ?_)
          · refine gj_iconst (pc := 48) cx d_P_isWellFormed_48 (v := nI 0) (by decide) ?_
            exact gj_zretR (pc := 49) cx hr hlk d_P_isWellFormed_49 rfl (by rw [wfP_f hn (by first | exact Or.inl hb9 | exact Or.inr (Or.inl hb9) | exact Or.inr (Or.inr (Or.inl hb9)) | exact Or.inr (Or.inr (Or.inr (Or.inl hb9))) | exact Or.inr (Or.inr (Or.inr (Or.inr hb9))))]; rfl)
          · refine gj_iconst (pc := 44) cx d_P_isWellFormed_44 (v := nI 1) (by decide) ?_
            refine gj_goto (pc := 45) cx d_P_isWellFormed_45 (tgt := 49) rfl ?_
            exact gj_zretR (pc := 49) cx hr hlk d_P_isWellFormed_49 rfl (by rw [wfP_ok hn hb2 hb4 hb6 hb8 hb9]; rfl)
      · refine gj_iconst (pc := 23) cx d_P_isWellFormed_23 (v := nI 0) (by decide) ?_
        exact gj_zretR (pc := 24) cx hr hlk d_P_isWellFormed_24 rfl (by rw [wfP_f hn (by first | exact Or.inl hb6 | exact Or.inr (Or.inl hb6) | exact Or.inr (Or.inr (Or.inl hb6)) | exact Or.inr (Or.inr (Or.inr (Or.inl hb6))) | exact Or.inr (Or.inr (Or.inr (Or.inr hb6))))]; rfl)
