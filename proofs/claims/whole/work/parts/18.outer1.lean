/-! Contracts of the outer class, its readers, laid by wip/gen/m_outer.py -/
set_option maxRecDepth 100000 in
set_option maxHeartbeats 4000000 in
theorem c_JI_bitCount (l : Launch) (D : va_G) (tys : List (ClassId × FieldType)) (xx : Int32)  : MRi l y_JI_bitCount (wsM y_JI_bitCount b_JI_bitCount 1 (some .int)) { frames := 0, cells := 0, slots := 0, locals := 0 } D vwK tys ([]) [.int xx] (bcI xx) := by
  refine gj_enterR (own := "java/lang/Integer") (by decide) rfl (Nat.le_of_ble_eq_true rfl) rfl rfl (fun p e s m below meth c cx hr hlk hK => ?_)
  refine gj_iload_n (pc := 0) cx d_JI_bitCount_0 rfl (x := xx) rfl ?_
  refine gj_iload_n (pc := 1) cx d_JI_bitCount_1 rfl (x := xx) rfl ?_
  refine gj_iconst (pc := 2) cx d_JI_bitCount_2 (v := nI 1) (by decide) ?_
  refine gj_iushr (pc := 3) cx d_JI_bitCount_3 rfl ?_
  refine gj_ldcw (pc := 4) cx d_JI_bitCount_4 (v := 1431655765) (in_WT wm_241) ?_
  refine gj_iand (pc := 7) cx d_JI_bitCount_7 ?_
  refine gj_isub (pc := 8) cx d_JI_bitCount_8 ?_
  refine gj_istore_n (pc := 9) cx d_JI_bitCount_9 rfl (lo' := [(0, .int (xx - (((xx.toUInt32 >>> ((nI 1).toUInt32 &&& Int32.toUInt32 31)).toInt32) &&& 1431655765)))]) (by decide) rfl ?_
  refine gj_iload_n (pc := 10) cx d_JI_bitCount_10 rfl (x := xx - (((xx.toUInt32 >>> ((nI 1).toUInt32 &&& Int32.toUInt32 31)).toInt32) &&& 1431655765)) rfl ?_
  refine gj_ldcw (pc := 11) cx d_JI_bitCount_11 (v := 858993459) (in_WT wm_242) ?_
  refine gj_iand (pc := 14) cx d_JI_bitCount_14 ?_
  refine gj_iload_n (pc := 15) cx d_JI_bitCount_15 rfl (x := xx - (((xx.toUInt32 >>> ((nI 1).toUInt32 &&& Int32.toUInt32 31)).toInt32) &&& 1431655765)) rfl ?_
  refine gj_iconst (pc := 16) cx d_JI_bitCount_16 (v := nI 2) (by decide) ?_
  refine gj_iushr (pc := 17) cx d_JI_bitCount_17 rfl ?_
  refine gj_ldcw (pc := 18) cx d_JI_bitCount_18 (v := 858993459) (in_WT wm_242) ?_
  refine gj_iand (pc := 21) cx d_JI_bitCount_21 ?_
  refine gj_iadd (pc := 22) cx d_JI_bitCount_22 ?_
  refine gj_istore_n (pc := 23) cx d_JI_bitCount_23 rfl (lo' := [(0, .int (((xx - (((xx.toUInt32 >>> ((nI 1).toUInt32 &&& Int32.toUInt32 31)).toInt32) &&& 1431655765)) &&& 858993459) + ((((xx - (((xx.toUInt32 >>> ((nI 1).toUInt32 &&& Int32.toUInt32 31)).toInt32) &&& 1431655765)).toUInt32 >>> ((nI 2).toUInt32 &&& Int32.toUInt32 31)).toInt32) &&& 858993459)))]) (by decide) rfl ?_
  refine gj_iload_n (pc := 24) cx d_JI_bitCount_24 rfl (x := ((xx - (((xx.toUInt32 >>> ((nI 1).toUInt32 &&& Int32.toUInt32 31)).toInt32) &&& 1431655765)) &&& 858993459) + ((((xx - (((xx.toUInt32 >>> ((nI 1).toUInt32 &&& Int32.toUInt32 31)).toInt32) &&& 1431655765)).toUInt32 >>> ((nI 2).toUInt32 &&& Int32.toUInt32 31)).toInt32) &&& 858993459)) rfl ?_
  refine gj_iload_n (pc := 25) cx d_JI_bitCount_25 rfl (x := ((xx - (((xx.toUInt32 >>> ((nI 1).toUInt32 &&& Int32.toUInt32 31)).toInt32) &&& 1431655765)) &&& 858993459) + ((((xx - (((xx.toUInt32 >>> ((nI 1).toUInt32 &&& Int32.toUInt32 31)).toInt32) &&& 1431655765)).toUInt32 >>> ((nI 2).toUInt32 &&& Int32.toUInt32 31)).toInt32) &&& 858993459)) rfl ?_
  refine gj_iconst (pc := 26) cx d_JI_bitCount_26 (v := nI 4) (by decide) ?_
  refine gj_iushr (pc := 27) cx d_JI_bitCount_27 rfl ?_
  refine gj_iadd (pc := 28) cx d_JI_bitCount_28 ?_
  refine gj_ldcw (pc := 29) cx d_JI_bitCount_29 (v := 252645135) (in_WT wm_243) ?_
  refine gj_iand (pc := 32) cx d_JI_bitCount_32 ?_
  refine gj_istore_n (pc := 33) cx d_JI_bitCount_33 rfl (lo' := [(0, .int (((((xx - (((xx.toUInt32 >>> ((nI 1).toUInt32 &&& Int32.toUInt32 31)).toInt32) &&& 1431655765)) &&& 858993459) + ((((xx - (((xx.toUInt32 >>> ((nI 1).toUInt32 &&& Int32.toUInt32 31)).toInt32) &&& 1431655765)).toUInt32 >>> ((nI 2).toUInt32 &&& Int32.toUInt32 31)).toInt32) &&& 858993459)) + (((((xx - (((xx.toUInt32 >>> ((nI 1).toUInt32 &&& Int32.toUInt32 31)).toInt32) &&& 1431655765)) &&& 858993459) + ((((xx - (((xx.toUInt32 >>> ((nI 1).toUInt32 &&& Int32.toUInt32 31)).toInt32) &&& 1431655765)).toUInt32 >>> ((nI 2).toUInt32 &&& Int32.toUInt32 31)).toInt32) &&& 858993459)).toUInt32 >>> ((nI 4).toUInt32 &&& Int32.toUInt32 31)).toInt32)) &&& 252645135))]) (by decide) rfl ?_
  refine gj_iload_n (pc := 34) cx d_JI_bitCount_34 rfl (x := ((((xx - (((xx.toUInt32 >>> ((nI 1).toUInt32 &&& Int32.toUInt32 31)).toInt32) &&& 1431655765)) &&& 858993459) + ((((xx - (((xx.toUInt32 >>> ((nI 1).toUInt32 &&& Int32.toUInt32 31)).toInt32) &&& 1431655765)).toUInt32 >>> ((nI 2).toUInt32 &&& Int32.toUInt32 31)).toInt32) &&& 858993459)) + (((((xx - (((xx.toUInt32 >>> ((nI 1).toUInt32 &&& Int32.toUInt32 31)).toInt32) &&& 1431655765)) &&& 858993459) + ((((xx - (((xx.toUInt32 >>> ((nI 1).toUInt32 &&& Int32.toUInt32 31)).toInt32) &&& 1431655765)).toUInt32 >>> ((nI 2).toUInt32 &&& Int32.toUInt32 31)).toInt32) &&& 858993459)).toUInt32 >>> ((nI 4).toUInt32 &&& Int32.toUInt32 31)).toInt32)) &&& 252645135) rfl ?_
  refine gj_iload_n (pc := 35) cx d_JI_bitCount_35 rfl (x := ((((xx - (((xx.toUInt32 >>> ((nI 1).toUInt32 &&& Int32.toUInt32 31)).toInt32) &&& 1431655765)) &&& 858993459) + ((((xx - (((xx.toUInt32 >>> ((nI 1).toUInt32 &&& Int32.toUInt32 31)).toInt32) &&& 1431655765)).toUInt32 >>> ((nI 2).toUInt32 &&& Int32.toUInt32 31)).toInt32) &&& 858993459)) + (((((xx - (((xx.toUInt32 >>> ((nI 1).toUInt32 &&& Int32.toUInt32 31)).toInt32) &&& 1431655765)) &&& 858993459) + ((((xx - (((xx.toUInt32 >>> ((nI 1).toUInt32 &&& Int32.toUInt32 31)).toInt32) &&& 1431655765)).toUInt32 >>> ((nI 2).toUInt32 &&& Int32.toUInt32 31)).toInt32) &&& 858993459)).toUInt32 >>> ((nI 4).toUInt32 &&& Int32.toUInt32 31)).toInt32)) &&& 252645135) rfl ?_
  refine gj_bipush (pc := 36) cx d_JI_bitCount_36 (v := nI 8) (by decide) ?_
  refine gj_iushr (pc := 38) cx d_JI_bitCount_38 rfl ?_
  refine gj_iadd (pc := 39) cx d_JI_bitCount_39 ?_
  refine gj_istore_n (pc := 40) cx d_JI_bitCount_40 rfl (lo' := [(0, .int ((((((xx - (((xx.toUInt32 >>> ((nI 1).toUInt32 &&& Int32.toUInt32 31)).toInt32) &&& 1431655765)) &&& 858993459) + ((((xx - (((xx.toUInt32 >>> ((nI 1).toUInt32 &&& Int32.toUInt32 31)).toInt32) &&& 1431655765)).toUInt32 >>> ((nI 2).toUInt32 &&& Int32.toUInt32 31)).toInt32) &&& 858993459)) + (((((xx - (((xx.toUInt32 >>> ((nI 1).toUInt32 &&& Int32.toUInt32 31)).toInt32) &&& 1431655765)) &&& 858993459) + ((((xx - (((xx.toUInt32 >>> ((nI 1).toUInt32 &&& Int32.toUInt32 31)).toInt32) &&& 1431655765)).toUInt32 >>> ((nI 2).toUInt32 &&& Int32.toUInt32 31)).toInt32) &&& 858993459)).toUInt32 >>> ((nI 4).toUInt32 &&& Int32.toUInt32 31)).toInt32)) &&& 252645135) + (((((((xx - (((xx.toUInt32 >>> ((nI 1).toUInt32 &&& Int32.toUInt32 31)).toInt32) &&& 1431655765)) &&& 858993459) + ((((xx - (((xx.toUInt32 >>> ((nI 1).toUInt32 &&& Int32.toUInt32 31)).toInt32) &&& 1431655765)).toUInt32 >>> ((nI 2).toUInt32 &&& Int32.toUInt32 31)).toInt32) &&& 858993459)) + (((((xx - (((xx.toUInt32 >>> ((nI 1).toUInt32 &&& Int32.toUInt32 31)).toInt32) &&& 1431655765)) &&& 858993459) + ((((xx - (((xx.toUInt32 >>> ((nI 1).toUInt32 &&& Int32.toUInt32 31)).toInt32) &&& 1431655765)).toUInt32 >>> ((nI 2).toUInt32 &&& Int32.toUInt32 31)).toInt32) &&& 858993459)).toUInt32 >>> ((nI 4).toUInt32 &&& Int32.toUInt32 31)).toInt32)) &&& 252645135).toUInt32 >>> ((nI 8).toUInt32 &&& Int32.toUInt32 31)).toInt32)))]) (by decide) rfl ?_
  refine gj_iload_n (pc := 41) cx d_JI_bitCount_41 rfl (x := (((((xx - (((xx.toUInt32 >>> ((nI 1).toUInt32 &&& Int32.toUInt32 31)).toInt32) &&& 1431655765)) &&& 858993459) + ((((xx - (((xx.toUInt32 >>> ((nI 1).toUInt32 &&& Int32.toUInt32 31)).toInt32) &&& 1431655765)).toUInt32 >>> ((nI 2).toUInt32 &&& Int32.toUInt32 31)).toInt32) &&& 858993459)) + (((((xx - (((xx.toUInt32 >>> ((nI 1).toUInt32 &&& Int32.toUInt32 31)).toInt32) &&& 1431655765)) &&& 858993459) + ((((xx - (((xx.toUInt32 >>> ((nI 1).toUInt32 &&& Int32.toUInt32 31)).toInt32) &&& 1431655765)).toUInt32 >>> ((nI 2).toUInt32 &&& Int32.toUInt32 31)).toInt32) &&& 858993459)).toUInt32 >>> ((nI 4).toUInt32 &&& Int32.toUInt32 31)).toInt32)) &&& 252645135) + (((((((xx - (((xx.toUInt32 >>> ((nI 1).toUInt32 &&& Int32.toUInt32 31)).toInt32) &&& 1431655765)) &&& 858993459) + ((((xx - (((xx.toUInt32 >>> ((nI 1).toUInt32 &&& Int32.toUInt32 31)).toInt32) &&& 1431655765)).toUInt32 >>> ((nI 2).toUInt32 &&& Int32.toUInt32 31)).toInt32) &&& 858993459)) + (((((xx - (((xx.toUInt32 >>> ((nI 1).toUInt32 &&& Int32.toUInt32 31)).toInt32) &&& 1431655765)) &&& 858993459) + ((((xx - (((xx.toUInt32 >>> ((nI 1).toUInt32 &&& Int32.toUInt32 31)).toInt32) &&& 1431655765)).toUInt32 >>> ((nI 2).toUInt32 &&& Int32.toUInt32 31)).toInt32) &&& 858993459)).toUInt32 >>> ((nI 4).toUInt32 &&& Int32.toUInt32 31)).toInt32)) &&& 252645135).toUInt32 >>> ((nI 8).toUInt32 &&& Int32.toUInt32 31)).toInt32)) rfl ?_
  refine gj_iload_n (pc := 42) cx d_JI_bitCount_42 rfl (x := (((((xx - (((xx.toUInt32 >>> ((nI 1).toUInt32 &&& Int32.toUInt32 31)).toInt32) &&& 1431655765)) &&& 858993459) + ((((xx - (((xx.toUInt32 >>> ((nI 1).toUInt32 &&& Int32.toUInt32 31)).toInt32) &&& 1431655765)).toUInt32 >>> ((nI 2).toUInt32 &&& Int32.toUInt32 31)).toInt32) &&& 858993459)) + (((((xx - (((xx.toUInt32 >>> ((nI 1).toUInt32 &&& Int32.toUInt32 31)).toInt32) &&& 1431655765)) &&& 858993459) + ((((xx - (((xx.toUInt32 >>> ((nI 1).toUInt32 &&& Int32.toUInt32 31)).toInt32) &&& 1431655765)).toUInt32 >>> ((nI 2).toUInt32 &&& Int32.toUInt32 31)).toInt32) &&& 858993459)).toUInt32 >>> ((nI 4).toUInt32 &&& Int32.toUInt32 31)).toInt32)) &&& 252645135) + (((((((xx - (((xx.toUInt32 >>> ((nI 1).toUInt32 &&& Int32.toUInt32 31)).toInt32) &&& 1431655765)) &&& 858993459) + ((((xx - (((xx.toUInt32 >>> ((nI 1).toUInt32 &&& Int32.toUInt32 31)).toInt32) &&& 1431655765)).toUInt32 >>> ((nI 2).toUInt32 &&& Int32.toUInt32 31)).toInt32) &&& 858993459)) + (((((xx - (((xx.toUInt32 >>> ((nI 1).toUInt32 &&& Int32.toUInt32 31)).toInt32) &&& 1431655765)) &&& 858993459) + ((((xx - (((xx.toUInt32 >>> ((nI 1).toUInt32 &&& Int32.toUInt32 31)).toInt32) &&& 1431655765)).toUInt32 >>> ((nI 2).toUInt32 &&& Int32.toUInt32 31)).toInt32) &&& 858993459)).toUInt32 >>> ((nI 4).toUInt32 &&& Int32.toUInt32 31)).toInt32)) &&& 252645135).toUInt32 >>> ((nI 8).toUInt32 &&& Int32.toUInt32 31)).toInt32)) rfl ?_
  refine gj_bipush (pc := 43) cx d_JI_bitCount_43 (v := nI 16) (by decide) ?_
  refine gj_iushr (pc := 45) cx d_JI_bitCount_45 rfl ?_
  refine gj_iadd (pc := 46) cx d_JI_bitCount_46 ?_
  refine gj_istore_n (pc := 47) cx d_JI_bitCount_47 rfl (lo' := [(0, .int (((((((xx - (((xx.toUInt32 >>> ((nI 1).toUInt32 &&& Int32.toUInt32 31)).toInt32) &&& 1431655765)) &&& 858993459) + ((((xx - (((xx.toUInt32 >>> ((nI 1).toUInt32 &&& Int32.toUInt32 31)).toInt32) &&& 1431655765)).toUInt32 >>> ((nI 2).toUInt32 &&& Int32.toUInt32 31)).toInt32) &&& 858993459)) + (((((xx - (((xx.toUInt32 >>> ((nI 1).toUInt32 &&& Int32.toUInt32 31)).toInt32) &&& 1431655765)) &&& 858993459) + ((((xx - (((xx.toUInt32 >>> ((nI 1).toUInt32 &&& Int32.toUInt32 31)).toInt32) &&& 1431655765)).toUInt32 >>> ((nI 2).toUInt32 &&& Int32.toUInt32 31)).toInt32) &&& 858993459)).toUInt32 >>> ((nI 4).toUInt32 &&& Int32.toUInt32 31)).toInt32)) &&& 252645135) + (((((((xx - (((xx.toUInt32 >>> ((nI 1).toUInt32 &&& Int32.toUInt32 31)).toInt32) &&& 1431655765)) &&& 858993459) + ((((xx - (((xx.toUInt32 >>> ((nI 1).toUInt32 &&& Int32.toUInt32 31)).toInt32) &&& 1431655765)).toUInt32 >>> ((nI 2).toUInt32 &&& Int32.toUInt32 31)).toInt32) &&& 858993459)) + (((((xx - (((xx.toUInt32 >>> ((nI 1).toUInt32 &&& Int32.toUInt32 31)).toInt32) &&& 1431655765)) &&& 858993459) + ((((xx - (((xx.toUInt32 >>> ((nI 1).toUInt32 &&& Int32.toUInt32 31)).toInt32) &&& 1431655765)).toUInt32 >>> ((nI 2).toUInt32 &&& Int32.toUInt32 31)).toInt32) &&& 858993459)).toUInt32 >>> ((nI 4).toUInt32 &&& Int32.toUInt32 31)).toInt32)) &&& 252645135).toUInt32 >>> ((nI 8).toUInt32 &&& Int32.toUInt32 31)).toInt32)) + ((((((((xx - (((xx.toUInt32 >>> ((nI 1).toUInt32 &&& Int32.toUInt32 31)).toInt32) &&& 1431655765)) &&& 858993459) + ((((xx - (((xx.toUInt32 >>> ((nI 1).toUInt32 &&& Int32.toUInt32 31)).toInt32) &&& 1431655765)).toUInt32 >>> ((nI 2).toUInt32 &&& Int32.toUInt32 31)).toInt32) &&& 858993459)) + (((((xx - (((xx.toUInt32 >>> ((nI 1).toUInt32 &&& Int32.toUInt32 31)).toInt32) &&& 1431655765)) &&& 858993459) + ((((xx - (((xx.toUInt32 >>> ((nI 1).toUInt32 &&& Int32.toUInt32 31)).toInt32) &&& 1431655765)).toUInt32 >>> ((nI 2).toUInt32 &&& Int32.toUInt32 31)).toInt32) &&& 858993459)).toUInt32 >>> ((nI 4).toUInt32 &&& Int32.toUInt32 31)).toInt32)) &&& 252645135) + (((((((xx - (((xx.toUInt32 >>> ((nI 1).toUInt32 &&& Int32.toUInt32 31)).toInt32) &&& 1431655765)) &&& 858993459) + ((((xx - (((xx.toUInt32 >>> ((nI 1).toUInt32 &&& Int32.toUInt32 31)).toInt32) &&& 1431655765)).toUInt32 >>> ((nI 2).toUInt32 &&& Int32.toUInt32 31)).toInt32) &&& 858993459)) + (((((xx - (((xx.toUInt32 >>> ((nI 1).toUInt32 &&& Int32.toUInt32 31)).toInt32) &&& 1431655765)) &&& 858993459) + ((((xx - (((xx.toUInt32 >>> ((nI 1).toUInt32 &&& Int32.toUInt32 31)).toInt32) &&& 1431655765)).toUInt32 >>> ((nI 2).toUInt32 &&& Int32.toUInt32 31)).toInt32) &&& 858993459)).toUInt32 >>> ((nI 4).toUInt32 &&& Int32.toUInt32 31)).toInt32)) &&& 252645135).toUInt32 >>> ((nI 8).toUInt32 &&& Int32.toUInt32 31)).toInt32)).toUInt32 >>> ((nI 16).toUInt32 &&& Int32.toUInt32 31)).toInt32)))]) (by decide) rfl ?_
  refine gj_iload_n (pc := 48) cx d_JI_bitCount_48 rfl (x := ((((((xx - (((xx.toUInt32 >>> ((nI 1).toUInt32 &&& Int32.toUInt32 31)).toInt32) &&& 1431655765)) &&& 858993459) + ((((xx - (((xx.toUInt32 >>> ((nI 1).toUInt32 &&& Int32.toUInt32 31)).toInt32) &&& 1431655765)).toUInt32 >>> ((nI 2).toUInt32 &&& Int32.toUInt32 31)).toInt32) &&& 858993459)) + (((((xx - (((xx.toUInt32 >>> ((nI 1).toUInt32 &&& Int32.toUInt32 31)).toInt32) &&& 1431655765)) &&& 858993459) + ((((xx - (((xx.toUInt32 >>> ((nI 1).toUInt32 &&& Int32.toUInt32 31)).toInt32) &&& 1431655765)).toUInt32 >>> ((nI 2).toUInt32 &&& Int32.toUInt32 31)).toInt32) &&& 858993459)).toUInt32 >>> ((nI 4).toUInt32 &&& Int32.toUInt32 31)).toInt32)) &&& 252645135) + (((((((xx - (((xx.toUInt32 >>> ((nI 1).toUInt32 &&& Int32.toUInt32 31)).toInt32) &&& 1431655765)) &&& 858993459) + ((((xx - (((xx.toUInt32 >>> ((nI 1).toUInt32 &&& Int32.toUInt32 31)).toInt32) &&& 1431655765)).toUInt32 >>> ((nI 2).toUInt32 &&& Int32.toUInt32 31)).toInt32) &&& 858993459)) + (((((xx - (((xx.toUInt32 >>> ((nI 1).toUInt32 &&& Int32.toUInt32 31)).toInt32) &&& 1431655765)) &&& 858993459) + ((((xx - (((xx.toUInt32 >>> ((nI 1).toUInt32 &&& Int32.toUInt32 31)).toInt32) &&& 1431655765)).toUInt32 >>> ((nI 2).toUInt32 &&& Int32.toUInt32 31)).toInt32) &&& 858993459)).toUInt32 >>> ((nI 4).toUInt32 &&& Int32.toUInt32 31)).toInt32)) &&& 252645135).toUInt32 >>> ((nI 8).toUInt32 &&& Int32.toUInt32 31)).toInt32)) + ((((((((xx - (((xx.toUInt32 >>> ((nI 1).toUInt32 &&& Int32.toUInt32 31)).toInt32) &&& 1431655765)) &&& 858993459) + ((((xx - (((xx.toUInt32 >>> ((nI 1).toUInt32 &&& Int32.toUInt32 31)).toInt32) &&& 1431655765)).toUInt32 >>> ((nI 2).toUInt32 &&& Int32.toUInt32 31)).toInt32) &&& 858993459)) + (((((xx - (((xx.toUInt32 >>> ((nI 1).toUInt32 &&& Int32.toUInt32 31)).toInt32) &&& 1431655765)) &&& 858993459) + ((((xx - (((xx.toUInt32 >>> ((nI 1).toUInt32 &&& Int32.toUInt32 31)).toInt32) &&& 1431655765)).toUInt32 >>> ((nI 2).toUInt32 &&& Int32.toUInt32 31)).toInt32) &&& 858993459)).toUInt32 >>> ((nI 4).toUInt32 &&& Int32.toUInt32 31)).toInt32)) &&& 252645135) + (((((((xx - (((xx.toUInt32 >>> ((nI 1).toUInt32 &&& Int32.toUInt32 31)).toInt32) &&& 1431655765)) &&& 858993459) + ((((xx - (((xx.toUInt32 >>> ((nI 1).toUInt32 &&& Int32.toUInt32 31)).toInt32) &&& 1431655765)).toUInt32 >>> ((nI 2).toUInt32 &&& Int32.toUInt32 31)).toInt32) &&& 858993459)) + (((((xx - (((xx.toUInt32 >>> ((nI 1).toUInt32 &&& Int32.toUInt32 31)).toInt32) &&& 1431655765)) &&& 858993459) + ((((xx - (((xx.toUInt32 >>> ((nI 1).toUInt32 &&& Int32.toUInt32 31)).toInt32) &&& 1431655765)).toUInt32 >>> ((nI 2).toUInt32 &&& Int32.toUInt32 31)).toInt32) &&& 858993459)).toUInt32 >>> ((nI 4).toUInt32 &&& Int32.toUInt32 31)).toInt32)) &&& 252645135).toUInt32 >>> ((nI 8).toUInt32 &&& Int32.toUInt32 31)).toInt32)).toUInt32 >>> ((nI 16).toUInt32 &&& Int32.toUInt32 31)).toInt32)) rfl ?_
  refine gj_bipush (pc := 49) cx d_JI_bitCount_49 (v := nI 63) (by decide) ?_
  refine gj_iand (pc := 51) cx d_JI_bitCount_51 ?_
  exact gj_iretR (pc := 52) cx hr hlk d_JI_bitCount_52 (rfl)

set_option maxRecDepth 100000 in
set_option maxHeartbeats 4000000 in
theorem c_E_isNode (l : Launch) (D : va_G) (cI cJ cO : ClassId) (h hN : Nat) (ad : Nat → Nat → Nat) (n f fa : Nat) (σ : Nat → NS) (nd : Int32)  : MRi l y_E_isNode (wsM y_E_isNode b_E_isNode 2 (some .boolean)) { frames := 0, cells := 0, slots := 0, locals := 0 } D vwK (tyo cI cJ cO) (oW cI cJ cO h hN ad n f fa σ) [.ref h, .int nd] (bI (isN n nd)) := by
  refine gj_enterR (own := R_E) (by decide) rfl (Nat.le_of_ble_eq_true rfl) rfl rfl (fun p e s m below meth c cx hr hlk hK => ?_)
  have hKn : va_K D vwK (tyl cI cJ) s := hK.sub [0, 1] rfl
  refine gj_iload_n (pc := 0) cx d_E_isNode_0 rfl (x := nd) rfl ?_
  refine gj_if_lt (pc := 1) cx d_E_isNode_1 (tgt := 16) rfl (fun hb1 => ?_) (fun hb1 => ?_)
  · refine gj_iconst (pc := 16) cx d_E_isNode_16 (v := nI 0) (by decide) ?_
    exact gj_zretR (pc := 17) cx hr hlk d_E_isNode_17 rfl (by rw [isN_f1 hb1]; rfl)
  · refine gj_iload_n (pc := 4) cx d_E_isNode_4 rfl (x := nd) rfl ?_
    refine gj_aload_n (pc := 5) cx d_E_isNode_5 rfl (x := h) rfl ?_
    refine gj_get (pc := 6) (ci := 1) (C := R_E) (T := T_E) (N := 4) (v := .int (nI n)) cx hK gj_rP in_E d_E_isNode_6 0 rfl rfl 0 (by decide) (in_WT wm_59) rfl ?_
    refine gj_icmp_ge (pc := 9) cx d_E_isNode_9 (tgt := 16) rfl (fun hb2 => ?_) (fun hb2 => ?_)
    · refine gj_iconst (pc := 16) cx d_E_isNode_16 (v := nI 0) (by decide) ?_
      exact gj_zretR (pc := 17) cx hr hlk d_E_isNode_17 rfl (by rw [isN_f2 hb2]; rfl)
    · refine gj_iconst (pc := 12) cx d_E_isNode_12 (v := nI 1) (by decide) ?_
      refine gj_goto (pc := 13) cx d_E_isNode_13 (tgt := 17) rfl ?_
      exact gj_zretR (pc := 17) cx hr hlk d_E_isNode_17 rfl (by rw [isN_t hb1 hb2]; rfl)

set_option maxRecDepth 100000 in
set_option maxHeartbeats 4000000 in
theorem c_E_isCorrect (l : Launch) (D : va_G) (cI cJ cO : ClassId) (h hN : Nat) (ad : Nat → Nat → Nat) (n f fa : Nat) (σ : Nat → NS) (nd : Int32) (hn : n ≤ 7) (hs : ∀ x, x < n → nInv n (σ x)) : MRi l y_E_isCorrect (wsM y_E_isCorrect b_E_isCorrect 2 (some .boolean)) { frames := 1, cells := 0, slots := 0, locals := 21 } D vwK (tyo cI cJ cO) (oW cI cJ cO h hN ad n f fa σ) [.ref h, .int nd] (bI (eCor n σ nd)) := by
  refine gj_enterR (own := R_E) (by decide) rfl (Nat.le_of_ble_eq_true rfl) rfl rfl (fun p e s m below meth c cx hr hlk hK => ?_)
  have hKn : va_K D vwK (tyl cI cJ) s := hK.sub [0, 1] rfl
  refine gj_aload_n (pc := 0) cx d_E_isCorrect_0 rfl (x := h) rfl ?_
  refine gj_iload_n (pc := 1) cx d_E_isCorrect_1 rfl (x := nd) rfl ?_
  refine gj_callVRi (pc := 2) (As := [.int nd]) (rest := []) (v := bI (isN n nd)) cx hK (c_E_isNode l D cI cJ cO h hN ad n f fa σ nd ) (cwV 1 cx.2.2.2.2 (good_V wm_76 wm_74 wm_75 wm_533 wm_1) rfl rfl rfl (by decide +kernel) ⟨Nat.le_of_ble_eq_true rfl, Nat.le_of_ble_eq_true rfl⟩) gj_rP 0 1 rfl rfl rfl rfl rfl (Nat.le_of_ble_eq_true rfl) d_E_isCorrect_2 ⟨Nat.zero_le _, Nat.zero_le _⟩ ?_
  refine gj_if_eqB (pc := 5) cx d_E_isCorrect_5 (tgt := 25) rfl (fun hb1 => ?_) (fun hb1 => ?_)
  · refine gj_iconst (pc := 25) cx d_E_isCorrect_25 (v := nI 0) (by decide) ?_
    exact gj_zretR (pc := 26) cx hr hlk d_E_isCorrect_26 rfl (by rw [eCor_f hb1]; rfl)
  · obtain ⟨x, hx, rfl⟩ := isN_of hn hb1
    refine gj_aload_n (pc := 8) cx d_E_isCorrect_8 rfl (x := h) rfl ?_
    refine gj_get (pc := 9) (ci := 1) (C := R_E) (T := T_E) (N := 4) (v := .ref hN) cx hK gj_rP in_E d_E_isCorrect_9 0 rfl rfl 2 (by decide) (in_WT wm_61) rfl ?_
    refine gj_iload_n (pc := 12) cx d_E_isCorrect_12 rfl (x := nI x) rfl ?_
    refine gj_aald (pc := 13) (i := x) (x := ad x 0) cx hK gj_rP d_E_isCorrect_13 1 2 rfl rfl (by omega) (by omega) rfl ?_
    refine gj_callVRi (pc := 14) (As := []) (rest := []) (v := nI (nCo (σ x))) cx hKn (c_N_condition l D cI cJ (ad x) x n f (σ x)  ) (cwV 0 cx.2.2.2.2 (good_V wm_80 wm_77 wm_78 wm_79 wm_3) rfl rfl rfl (by decide +kernel) ⟨Nat.le_of_ble_eq_true rfl, Nat.le_of_ble_eq_true rfl⟩) (fun H locs hB => oW_P (by omega) (gj_rP H locs hB)) 0 0 rfl rfl rfl rfl rfl (Nat.le_of_ble_eq_true rfl) d_E_isCorrect_14 ⟨Nat.zero_le _, Nat.zero_le _⟩ ?_
    have hv2 := (hs x (by omega)).1.1
    refine gj_iconst (pc := 17) cx d_E_isCorrect_17 (v := nI 2) (by decide) ?_
    refine gj_icmp_eqN (pc := 18) cx d_E_isCorrect_18 (tgt := 25) rfl (by omega) (by omega) (fun hb3 => ?_) (fun hb3 => ?_)
    · refine gj_iconst (pc := 25) cx d_E_isCorrect_25 (v := nI 0) (by decide) ?_
      exact gj_zretR (pc := 26) cx hr hlk d_E_isCorrect_26 rfl (by rw [eCor_N hn hx]; simp [hb3, bI, nI])
    · refine gj_iconst (pc := 21) cx d_E_isCorrect_21 (v := nI 1) (by decide) ?_
      refine gj_goto (pc := 22) cx d_E_isCorrect_22 (tgt := 26) rfl ?_
      exact gj_zretR (pc := 26) cx hr hlk d_E_isCorrect_26 rfl (by rw [eCor_N hn hx]; simp [hb3, bI, nI])

set_option maxRecDepth 100000 in
set_option maxHeartbeats 4000000 in
theorem c_E_isUp (l : Launch) (D : va_G) (cI cJ cO : ClassId) (h hN : Nat) (ad : Nat → Nat → Nat) (n f fa : Nat) (σ : Nat → NS) (nd : Int32) (hn : n ≤ 7) (hs : ∀ x, x < n → nInv n (σ x)) : MRi l y_E_isUp (wsM y_E_isUp b_E_isUp 2 (some .boolean)) { frames := 1, cells := 0, slots := 0, locals := 21 } D vwK (tyo cI cJ cO) (oW cI cJ cO h hN ad n f fa σ) [.ref h, .int nd] (bI (eUp n σ nd)) := by
  refine gj_enterR (own := R_E) (by decide) rfl (Nat.le_of_ble_eq_true rfl) rfl rfl (fun p e s m below meth c cx hr hlk hK => ?_)
  have hKn : va_K D vwK (tyl cI cJ) s := hK.sub [0, 1] rfl
  refine gj_aload_n (pc := 0) cx d_E_isUp_0 rfl (x := h) rfl ?_
  refine gj_iload_n (pc := 1) cx d_E_isUp_1 rfl (x := nd) rfl ?_
  refine gj_callVRi (pc := 2) (As := [.int nd]) (rest := []) (v := bI (isN n nd)) cx hK (c_E_isNode l D cI cJ cO h hN ad n f fa σ nd ) (cwV 1 cx.2.2.2.2 (good_V wm_76 wm_74 wm_75 wm_533 wm_1) rfl rfl rfl (by decide +kernel) ⟨Nat.le_of_ble_eq_true rfl, Nat.le_of_ble_eq_true rfl⟩) gj_rP 0 1 rfl rfl rfl rfl rfl (Nat.le_of_ble_eq_true rfl) d_E_isUp_2 ⟨Nat.zero_le _, Nat.zero_le _⟩ ?_
  refine gj_if_eqB (pc := 5) cx d_E_isUp_5 (tgt := 24) rfl (fun hb1 => ?_) (fun hb1 => ?_)
  · refine gj_iconst (pc := 24) cx d_E_isUp_24 (v := nI 0) (by decide) ?_
    exact gj_zretR (pc := 25) cx hr hlk d_E_isUp_25 rfl (by rw [eUp_f hb1]; rfl)
  · obtain ⟨x, hx, rfl⟩ := isN_of hn hb1
    refine gj_aload_n (pc := 8) cx d_E_isUp_8 rfl (x := h) rfl ?_
    refine gj_get (pc := 9) (ci := 1) (C := R_E) (T := T_E) (N := 4) (v := .ref hN) cx hK gj_rP in_E d_E_isUp_9 0 rfl rfl 2 (by decide) (in_WT wm_61) rfl ?_
    refine gj_iload_n (pc := 12) cx d_E_isUp_12 rfl (x := nI x) rfl ?_
    refine gj_aald (pc := 13) (i := x) (x := ad x 0) cx hK gj_rP d_E_isUp_13 1 2 rfl rfl (by omega) (by omega) rfl ?_
    refine gj_callVRi (pc := 14) (As := []) (rest := []) (v := nI (nCo (σ x))) cx hKn (c_N_condition l D cI cJ (ad x) x n f (σ x)  ) (cwV 0 cx.2.2.2.2 (good_V wm_80 wm_77 wm_78 wm_79 wm_3) rfl rfl rfl (by decide +kernel) ⟨Nat.le_of_ble_eq_true rfl, Nat.le_of_ble_eq_true rfl⟩) (fun H locs hB => oW_P (by omega) (gj_rP H locs hB)) 0 0 rfl rfl rfl rfl rfl (Nat.le_of_ble_eq_true rfl) d_E_isUp_14 ⟨Nat.zero_le _, Nat.zero_le _⟩ ?_
    have hv2 := (hs x (by omega)).1.1
    refine gj_if_neN (pc := 17) cx d_E_isUp_17 (tgt := 24) rfl (by omega) (fun hb3 => ?_) (fun hb3 => ?_)
    · refine gj_iconst (pc := 24) cx d_E_isUp_24 (v := nI 0) (by decide) ?_
      exact gj_zretR (pc := 25) cx hr hlk d_E_isUp_25 rfl (by rw [eUp_N hn hx]; simp [hb3, bI, nI])
    · refine gj_iconst (pc := 20) cx d_E_isUp_20 (v := nI 1) (by decide) ?_
      refine gj_goto (pc := 21) cx d_E_isUp_21 (tgt := 25) rfl ?_
      exact gj_zretR (pc := 25) cx hr hlk d_E_isUp_25 rfl (by rw [eUp_N hn hx]; simp [hb3, bI, nI])

set_option maxRecDepth 100000 in
set_option maxHeartbeats 4000000 in
theorem c_E_state (l : Launch) (D : va_G) (cI cJ cO : ClassId) (h hN : Nat) (ad : Nat → Nat → Nat) (n f fa : Nat) (σ : Nat → NS) (nd : Int32) (hn : n ≤ 7) (hs : ∀ x, x < n → nInv n (σ x)) : MRi l y_E_state (wsM y_E_state b_E_state 2 (some .int)) { frames := 1, cells := 0, slots := 0, locals := 21 } D vwK (tyo cI cJ cO) (oW cI cJ cO h hN ad n f fa σ) [.ref h, .int nd] (eState n σ nd) := by
  refine gj_enterR (own := R_E) (by decide) rfl (Nat.le_of_ble_eq_true rfl) rfl rfl (fun p e s m below meth c cx hr hlk hK => ?_)
  have hKn : va_K D vwK (tyl cI cJ) s := hK.sub [0, 1] rfl
  refine gj_aload_n (pc := 0) cx d_E_state_0 rfl (x := h) rfl ?_
  refine gj_iload_n (pc := 1) cx d_E_state_1 rfl (x := nd) rfl ?_
  refine gj_callVRi (pc := 2) (As := [.int nd]) (rest := []) (v := bI (isN n nd)) cx hK (c_E_isNode l D cI cJ cO h hN ad n f fa σ nd ) (cwV 1 cx.2.2.2.2 (good_V wm_76 wm_74 wm_75 wm_533 wm_1) rfl rfl rfl (by decide +kernel) ⟨Nat.le_of_ble_eq_true rfl, Nat.le_of_ble_eq_true rfl⟩) gj_rP 0 1 rfl rfl rfl rfl rfl (Nat.le_of_ble_eq_true rfl) d_E_state_2 ⟨Nat.zero_le _, Nat.zero_le _⟩ ?_
  refine gj_if_eqB (pc := 5) cx d_E_state_5 (tgt := 20) rfl (fun hb1 => ?_) (fun hb1 => ?_)
  · refine gj_iconst (pc := 20) cx d_E_state_20 (v := (-1)) (by decide) ?_
    exact gj_iretR (pc := 21) cx hr hlk d_E_state_21 (by rw [eState_f hb1])
  · obtain ⟨x, hx, rfl⟩ := isN_of hn hb1
    refine gj_aload_n (pc := 8) cx d_E_state_8 rfl (x := h) rfl ?_
    refine gj_get (pc := 9) (ci := 1) (C := R_E) (T := T_E) (N := 4) (v := .ref hN) cx hK gj_rP in_E d_E_state_9 0 rfl rfl 2 (by decide) (in_WT wm_61) rfl ?_
    refine gj_iload_n (pc := 12) cx d_E_state_12 rfl (x := nI x) rfl ?_
    refine gj_aald (pc := 13) (i := x) (x := ad x 0) cx hK gj_rP d_E_state_13 1 2 rfl rfl (by omega) (by omega) rfl ?_
    refine gj_callVRi (pc := 14) (As := []) (rest := []) (v := nI (nCo (σ x))) cx hKn (c_N_condition l D cI cJ (ad x) x n f (σ x)  ) (cwV 0 cx.2.2.2.2 (good_V wm_80 wm_77 wm_78 wm_79 wm_3) rfl rfl rfl (by decide +kernel) ⟨Nat.le_of_ble_eq_true rfl, Nat.le_of_ble_eq_true rfl⟩) (fun H locs hB => oW_P (by omega) (gj_rP H locs hB)) 0 0 rfl rfl rfl rfl rfl (Nat.le_of_ble_eq_true rfl) d_E_state_14 ⟨Nat.zero_le _, Nat.zero_le _⟩ ?_
    have hv2 := (hs x (by omega)).1.1
    refine gj_goto (pc := 17) cx d_E_state_17 (tgt := 21) rfl ?_
    exact gj_iretR (pc := 21) cx hr hlk d_E_state_21 (by rw [eState_N hn hx])

set_option maxRecDepth 100000 in
set_option maxHeartbeats 4000000 in
theorem c_E_topicOf (l : Launch) (D : va_G) (cI cJ cO : ClassId) (h hN : Nat) (ad : Nat → Nat → Nat) (n f fa : Nat) (σ : Nat → NS) (kd : Int32) (bd : Int32) (qd : Int32) (hn : n ≤ 7) : MRi l y_E_topicOf (wsM y_E_topicOf b_E_topicOf 4 (some .int)) { frames := 1, cells := 0, slots := 0, locals := 22 } D vwK (tyo cI cJ cO) (oW cI cJ cO h hN ad n f fa σ) [.ref h, .int kd, .int bd, .int qd] (tpI (tpc n kd bd qd)) := by
  refine gj_enterR (own := R_E) (by decide) rfl (Nat.le_of_ble_eq_true rfl) rfl rfl (fun p e s m below meth c cx hr hlk hK => ?_)
  have hKn : va_K D vwK (tyl cI cJ) s := hK.sub [0, 1] rfl
  refine gj_iload_n (pc := 0) cx d_E_topicOf_0 rfl (x := kd) rfl ?_
  refine gj_iconst (pc := 1) cx d_E_topicOf_1 (v := nI 4) (by decide) ?_
  refine gj_icmp_ne (pc := 2) cx d_E_topicOf_2 (tgt := 21) rfl (fun hb1 => ?_) (fun hb1 => ?_)
  · refine gj_iload_n (pc := 21) cx d_E_topicOf_21 rfl (x := kd) rfl ?_
    refine gj_if_lt (pc := 22) cx d_E_topicOf_22 (tgt := 48) rfl (fun hb2 => ?_) (fun hb2 => ?_)
    · refine gj_iconst (pc := 48) cx d_E_topicOf_48 (v := (-1)) (by decide) ?_
      exact gj_iretR (pc := 49) cx hr hlk d_E_topicOf_49 (by rw [tpc_n hb1 (Or.inl hb2)]; rfl)
    · refine gj_iload_n (pc := 25) cx d_E_topicOf_25 rfl (x := kd) rfl ?_
      refine gj_iconst (pc := 26) cx d_E_topicOf_26 (v := nI 3) (by decide) ?_
      refine gj_icmp_gt (pc := 27) cx d_E_topicOf_27 (tgt := 48) rfl (fun hb3 => ?_) (fun hb3 => ?_)
      · refine gj_iconst (pc := 48) cx d_E_topicOf_48 (v := (-1)) (by decide) ?_
        exact gj_iretR (pc := 49) cx hr hlk d_E_topicOf_49 (by rw [tpc_n hb1 (Or.inr (Or.inl hb3))]; rfl)
      · refine gj_aload_n (pc := 30) cx d_E_topicOf_30 rfl (x := h) rfl ?_
        refine gj_iload_n (pc := 31) cx d_E_topicOf_31 rfl (x := bd) rfl ?_
        refine gj_callVRi (pc := 32) (As := [.int bd]) (rest := []) (v := bI (isN n bd)) cx hK (c_E_isNode l D cI cJ cO h hN ad n f fa σ bd ) (cwV 1 cx.2.2.2.2 (good_V wm_76 wm_74 wm_75 wm_533 wm_1) rfl rfl rfl (by decide +kernel) ⟨Nat.le_of_ble_eq_true rfl, Nat.le_of_ble_eq_true rfl⟩) gj_rP 0 1 rfl rfl rfl rfl rfl (Nat.le_of_ble_eq_true rfl) d_E_topicOf_32 ⟨Nat.zero_le _, Nat.zero_le _⟩ ?_
        refine gj_if_eqB (pc := 35) cx d_E_topicOf_35 (tgt := 48) rfl (fun hb4 => ?_) (fun hb4 => ?_)
        · refine gj_iconst (pc := 48) cx d_E_topicOf_48 (v := (-1)) (by decide) ?_
          exact gj_iretR (pc := 49) cx hr hlk d_E_topicOf_49 (by rw [tpc_n hb1 (Or.inr (Or.inr (Or.inl hb4)))]; rfl)
        · refine gj_iload_n (pc := 38) cx d_E_topicOf_38 rfl (x := qd) rfl ?_
          refine gj_iconst (pc := 39) cx d_E_topicOf_39 (v := nI 1) (by decide) ?_
          refine gj_icmp_lt (pc := 40) cx d_E_topicOf_40 (tgt := 48) rfl (fun hb5 => ?_) (fun hb5 => ?_)
          · refine gj_iconst (pc := 48) cx d_E_topicOf_48 (v := (-1)) (by decide) ?_
            exact gj_iretR (pc := 49) cx hr hlk d_E_topicOf_49 (by rw [tpc_n hb1 (Or.inr (Or.inr (Or.inr (Or.inl hb5))))]; rfl)
          · refine gj_iload_n (pc := 43) cx d_E_topicOf_43 rfl (x := qd) rfl ?_
            refine gj_iconst (pc := 44) cx d_E_topicOf_44 (v := nI 5) (by decide) ?_
            refine gj_icmp_le (pc := 45) cx d_E_topicOf_45 (tgt := 50) rfl (fun hb6 => ?_) (fun hb6 => ?_)
            · obtain ⟨k, hk, rfl⟩ := nI_of2 (M := 3) (n := 3) (by decide) hb2 (Int32.not_lt.mp hb3)
              obtain ⟨b, hb, rfl⟩ := isN_of hn hb4
              obtain ⟨q, hq, rfl⟩ := nI_of2 (M := 5) (n := 5) (by decide) (fun z => hb5 (Int32.lt_of_lt_of_le z (by decide))) hb6
              have hq1 : 1 ≤ q := by rcases Nat.lt_or_ge q 1 with z | z; exact absurd ((nI_ltI (a := q) (b := 1) (by omega) (by omega)).mpr z) hb5; exact z
              refine gj_iload_n (pc := 50) cx d_E_topicOf_50 rfl (x := nI k) rfl ?_
              refine gj_iload_n (pc := 51) cx d_E_topicOf_51 rfl (x := nI b) rfl ?_
              refine gj_iload_n (pc := 52) cx d_E_topicOf_52 rfl (x := nI q) rfl ?_
              refine gj_callSRi (pc := 53) (As := [.int (nI k), .int (nI b), .int (nI q)]) (rest := []) (v := nI ((k * 7 + b) * 5 + q - 1)) cx hK (c_T_of l D (tyo cI cJ cO) k b q (by omega)) (va_cwS 3 cx.2.2.2.2 (good_S wm_90 wm_138 wm_89 wm_6) rfl rfl rfl (by decide +kernel) ⟨Nat.le_of_ble_eq_true rfl, Nat.le_of_ble_eq_true rfl⟩) (fun _ _ _ => gj_P0) rfl rfl (Nat.le_of_ble_eq_true rfl) d_E_topicOf_53 ⟨Nat.zero_le _, Nat.zero_le _⟩ ?_
              exact gj_iretR (pc := 56) cx hr hlk d_E_topicOf_56 (by rw [tpc_N hn hk hb hq1 hq]; rfl)
            · refine gj_iconst (pc := 48) cx d_E_topicOf_48 (v := (-1)) (by decide) ?_
              exact gj_iretR (pc := 49) cx hr hlk d_E_topicOf_49 (by rw [tpc_n hb1 (Or.inr (Or.inr (Or.inr (Or.inr (Int32.not_le.mp hb6)))))]; rfl)
  · refine gj_iload_n (pc := 5) cx d_E_topicOf_5 rfl (x := bd) rfl ?_
    refine gj_if_ne (pc := 6) cx d_E_topicOf_6 (tgt := 19) rfl (fun hb7 => ?_) (fun hb7 => ?_)
    · refine gj_iconst (pc := 19) cx d_E_topicOf_19 (v := (-1)) (by decide) ?_
      exact gj_iretR (pc := 20) cx hr hlk d_E_topicOf_20 (by rw [tpc_4a hb1 hb7]; rfl)
    · refine gj_iload_n (pc := 9) cx d_E_topicOf_9 rfl (x := qd) rfl ?_
      refine gj_if_ne (pc := 10) cx d_E_topicOf_10 (tgt := 19) rfl (fun hb8 => ?_) (fun hb8 => ?_)
      · refine gj_iconst (pc := 19) cx d_E_topicOf_19 (v := (-1)) (by decide) ?_
        exact gj_iretR (pc := 20) cx hr hlk d_E_topicOf_20 (by rw [tpc_4b hb1 hb8]; rfl)
      · refine gj_sipush (pc := 13) cx d_E_topicOf_13 (v := nI 140) (by decide) ?_
        refine gj_goto (pc := 16) cx d_E_topicOf_16 (tgt := 20) rfl ?_
        exact gj_iretR (pc := 20) cx hr hlk d_E_topicOf_20 (by rw [tpc_4t hb1 hb7 hb8]; rfl)

set_option maxRecDepth 100000 in
set_option maxHeartbeats 4000000 in
theorem c_E_sent (l : Launch) (D : va_G) (cI cJ cO : ClassId) (h hN : Nat) (ad : Nat → Nat → Nat) (n f fa : Nat) (σ : Nat → NS) (nd : Int32) (kd : Int32) (bd : Int32) (qd : Int32) (hn : n ≤ 7) (hs : ∀ x, x < n → nInv n (σ x)) : MRl l y_E_sent (wsM y_E_sent b_E_sent 6 (some .long)) { frames := 2, cells := 0, slots := 0, locals := 45 } D vwK (tyo cI cJ cO) (oW cI cJ cO h hN ad n f fa σ) [.ref h, .int nd, .int kd, .int bd, .int qd] (eSent n σ nd kd bd qd) := by
  refine gj_enterR (own := R_E) (by decide) rfl (Nat.le_of_ble_eq_true rfl) rfl rfl (fun p e s m below meth c cx hr hlk hK => ?_)
  have hKn : va_K D vwK (tyl cI cJ) s := hK.sub [0, 1] rfl
  refine gj_aload_n (pc := 0) cx d_E_sent_0 rfl (x := h) rfl ?_
  refine gj_iload_n (pc := 1) cx d_E_sent_1 rfl (x := kd) rfl ?_
  refine gj_iload_n (pc := 2) cx d_E_sent_2 rfl (x := bd) rfl ?_
  refine gj_iload (pc := 3) cx d_E_sent_3 (x := qd) rfl ?_
  refine gj_callVRi (pc := 5) (As := [.int kd, .int bd, .int qd]) (rest := []) (v := tpI (tpc n kd bd qd)) cx hK (c_E_topicOf l D cI cJ cO h hN ad n f fa σ kd bd qd (by omega)) (cwV 3 cx.2.2.2.2 (good_V wm_137 wm_135 wm_136 wm_539 wm_1) rfl rfl rfl (by decide +kernel) ⟨Nat.le_of_ble_eq_true rfl, Nat.le_of_ble_eq_true rfl⟩) gj_rP 0 1 rfl rfl rfl rfl rfl (Nat.le_of_ble_eq_true rfl) d_E_sent_5 ⟨Nat.zero_le _, Nat.zero_le _⟩ ?_
  rcases hT : tpc n kd bd qd with _ | t
  · refine gj_toi (y := (-1)) rfl ?_
    refine gj_istore (pc := 8) cx d_E_sent_8 (lo' := [(5, .int (-1)), (0, .ref h), (1, .int nd), (2, .int kd), (3, .int bd), (4, .int qd)]) (by decide) rfl ?_
    refine gj_aload_n (pc := 10) cx d_E_sent_10 rfl (x := h) rfl ?_
    refine gj_iload_n (pc := 11) cx d_E_sent_11 rfl (x := nd) rfl ?_
    refine gj_callVRi (pc := 12) (As := [.int nd]) (rest := []) (v := bI (eCor n σ nd)) cx hK (c_E_isCorrect l D cI cJ cO h hN ad n f fa σ nd (by omega) (by omega)) (cwV 1 cx.2.2.2.2 (good_V wm_122 wm_120 wm_121 wm_538 wm_1) rfl rfl rfl (by decide +kernel) ⟨Nat.le_of_ble_eq_true rfl, Nat.le_of_ble_eq_true rfl⟩) gj_rP 0 1 rfl rfl rfl rfl rfl (Nat.le_of_ble_eq_true rfl) d_E_sent_12 ⟨Nat.zero_le _, Nat.zero_le _⟩ ?_
    refine gj_if_eqB (pc := 15) cx d_E_sent_15 (tgt := 38) rfl (fun hb1 => ?_) (fun hb1 => ?_)
    · refine gj_ldc2 (pc := 38) cx d_E_sent_38 (v := (-1)) (in_WT wm_219) ?_
      exact gj_lretR (pc := 41) cx hr hlk d_E_sent_41 (by rw [eSent, if_neg (by rw [hb1]; decide)])
    · obtain ⟨x, hx, rfl, hcr⟩ := eCor_of hn hb1
      refine gj_iload (pc := 18) cx d_E_sent_18 (x := (-1)) rfl ?_
      refine gj_iconst (pc := 20) cx d_E_sent_20 (v := (-1)) (by decide) ?_
      refine gj_icmp_eq (pc := 21) cx d_E_sent_21 (tgt := 38) rfl (fun hb2 => ?_) (fun hb2 => absurd hb2 (fun z => z rfl))
      refine gj_ldc2 (pc := 38) cx d_E_sent_38 (v := (-1)) (in_WT wm_219) ?_
      exact gj_lretR (pc := 41) cx hr hlk d_E_sent_41 (by rw [eSent, if_pos hb1, hT])
  · refine gj_toi (y := nI t) rfl ?_
    have htt := tpc_lt hn hT
    refine gj_istore (pc := 8) cx d_E_sent_8 (lo' := [(5, .int (nI t)), (0, .ref h), (1, .int nd), (2, .int kd), (3, .int bd), (4, .int qd)]) (by decide) rfl ?_
    refine gj_aload_n (pc := 10) cx d_E_sent_10 rfl (x := h) rfl ?_
    refine gj_iload_n (pc := 11) cx d_E_sent_11 rfl (x := nd) rfl ?_
    refine gj_callVRi (pc := 12) (As := [.int nd]) (rest := []) (v := bI (eCor n σ nd)) cx hK (c_E_isCorrect l D cI cJ cO h hN ad n f fa σ nd (by omega) (by omega)) (cwV 1 cx.2.2.2.2 (good_V wm_122 wm_120 wm_121 wm_538 wm_1) rfl rfl rfl (by decide +kernel) ⟨Nat.le_of_ble_eq_true rfl, Nat.le_of_ble_eq_true rfl⟩) gj_rP 0 1 rfl rfl rfl rfl rfl (Nat.le_of_ble_eq_true rfl) d_E_sent_12 ⟨Nat.zero_le _, Nat.zero_le _⟩ ?_
    refine gj_if_eqB (pc := 15) cx d_E_sent_15 (tgt := 38) rfl (fun hb3 => ?_) (fun hb3 => ?_)
    · refine gj_ldc2 (pc := 38) cx d_E_sent_38 (v := (-1)) (in_WT wm_219) ?_
      exact gj_lretR (pc := 41) cx hr hlk d_E_sent_41 (by rw [eSent, if_neg (by rw [hb3]; decide)])
    · obtain ⟨x, hx, rfl, hcr⟩ := eCor_of hn hb3
      refine gj_iload (pc := 18) cx d_E_sent_18 (x := nI t) rfl ?_
      refine gj_iconst (pc := 20) cx d_E_sent_20 (v := (-1)) (by decide) ?_
      refine gj_icmp_eq (pc := 21) cx d_E_sent_21 (tgt := 38) rfl (fun hb4 => absurd hb4 (nI_m1 (by omega))) (fun hb4 => ?_)
      refine gj_aload_n (pc := 24) cx d_E_sent_24 rfl (x := h) rfl ?_
      refine gj_get (pc := 25) (ci := 1) (C := R_E) (T := T_E) (N := 4) (v := .ref hN) cx hK gj_rP in_E d_E_sent_25 0 rfl rfl 2 (by decide) (in_WT wm_61) rfl ?_
      refine gj_iload_n (pc := 28) cx d_E_sent_28 rfl (x := nI x) rfl ?_
      refine gj_aald (pc := 29) (i := x) (x := ad x 0) cx hK gj_rP d_E_sent_29 1 2 rfl rfl (by omega) (by omega) rfl ?_
      refine gj_iload (pc := 30) cx d_E_sent_30 (x := nI t) rfl ?_
      refine gj_callVRl (pc := 32) (As := [.int (nI t)]) (rest := []) (v := nSa (σ x) t) cx hKn (c_N_said l D cI cJ (ad x) x n f (σ x) t (by omega)) (cwV 1 cx.2.2.2.2 (good_V wm_218 wm_215 wm_216 wm_217 wm_3) rfl rfl rfl (by decide +kernel) ⟨Nat.le_of_ble_eq_true rfl, Nat.le_of_ble_eq_true rfl⟩) (fun H locs hB => oW_P (by omega) (gj_rP H locs hB)) 0 0 rfl rfl rfl rfl rfl (Nat.le_of_ble_eq_true rfl) d_E_sent_32 ⟨Nat.zero_le _, Nat.zero_le _⟩ ?_
      refine gj_goto (pc := 35) cx d_E_sent_35 (tgt := 41) rfl ?_
      exact gj_lretR (pc := 41) cx hr hlk d_E_sent_41 (by rw [eSent, if_pos hb3, hT, xN_nI (by omega)])

set_option maxRecDepth 100000 in
set_option maxHeartbeats 4000000 in
theorem c_E_heard (l : Launch) (D : va_G) (cI cJ cO : ClassId) (h hN : Nat) (ad : Nat → Nat → Nat) (n f fa : Nat) (σ : Nat → NS) (nd : Int32) (kd : Int32) (bd : Int32) (qd : Int32) (hn : n ≤ 7) (hs : ∀ x, x < n → nInv n (σ x)) : MRi l y_E_heard (wsM y_E_heard b_E_heard 6 (some .int)) { frames := 2, cells := 0, slots := 0, locals := 45 } D vwK (tyo cI cJ cO) (oW cI cJ cO h hN ad n f fa σ) [.ref h, .int nd, .int kd, .int bd, .int qd] (eHeard n σ nd kd bd qd) := by
  refine gj_enterR (own := R_E) (by decide) rfl (Nat.le_of_ble_eq_true rfl) rfl rfl (fun p e s m below meth c cx hr hlk hK => ?_)
  have hKn : va_K D vwK (tyl cI cJ) s := hK.sub [0, 1] rfl
  refine gj_aload_n (pc := 0) cx d_E_heard_0 rfl (x := h) rfl ?_
  refine gj_iload_n (pc := 1) cx d_E_heard_1 rfl (x := kd) rfl ?_
  refine gj_iload_n (pc := 2) cx d_E_heard_2 rfl (x := bd) rfl ?_
  refine gj_iload (pc := 3) cx d_E_heard_3 (x := qd) rfl ?_
  refine gj_callVRi (pc := 5) (As := [.int kd, .int bd, .int qd]) (rest := []) (v := tpI (tpc n kd bd qd)) cx hK (c_E_topicOf l D cI cJ cO h hN ad n f fa σ kd bd qd (by omega)) (cwV 3 cx.2.2.2.2 (good_V wm_137 wm_135 wm_136 wm_539 wm_1) rfl rfl rfl (by decide +kernel) ⟨Nat.le_of_ble_eq_true rfl, Nat.le_of_ble_eq_true rfl⟩) gj_rP 0 1 rfl rfl rfl rfl rfl (Nat.le_of_ble_eq_true rfl) d_E_heard_5 ⟨Nat.zero_le _, Nat.zero_le _⟩ ?_
  rcases hT : tpc n kd bd qd with _ | t
  · refine gj_toi (y := (-1)) rfl ?_
    refine gj_istore (pc := 8) cx d_E_heard_8 (lo' := [(5, .int (-1)), (0, .ref h), (1, .int nd), (2, .int kd), (3, .int bd), (4, .int qd)]) (by decide) rfl ?_
    refine gj_aload_n (pc := 10) cx d_E_heard_10 rfl (x := h) rfl ?_
    refine gj_iload_n (pc := 11) cx d_E_heard_11 rfl (x := nd) rfl ?_
    refine gj_callVRi (pc := 12) (As := [.int nd]) (rest := []) (v := bI (eCor n σ nd)) cx hK (c_E_isCorrect l D cI cJ cO h hN ad n f fa σ nd (by omega) (by omega)) (cwV 1 cx.2.2.2.2 (good_V wm_122 wm_120 wm_121 wm_538 wm_1) rfl rfl rfl (by decide +kernel) ⟨Nat.le_of_ble_eq_true rfl, Nat.le_of_ble_eq_true rfl⟩) gj_rP 0 1 rfl rfl rfl rfl rfl (Nat.le_of_ble_eq_true rfl) d_E_heard_12 ⟨Nat.zero_le _, Nat.zero_le _⟩ ?_
    refine gj_if_eqB (pc := 15) cx d_E_heard_15 (tgt := 28) rfl (fun hb1 => ?_) (fun hb1 => ?_)
    · refine gj_iconst (pc := 28) cx d_E_heard_28 (v := (-1)) (by decide) ?_
      exact gj_iretR (pc := 29) cx hr hlk d_E_heard_29 (by rw [eHeard, if_neg (fun z => by rw [hb1] at z; cases z.1)])
    · obtain ⟨x, hx, rfl, hcr⟩ := eCor_of hn hb1
      refine gj_iload (pc := 18) cx d_E_heard_18 (x := (-1)) rfl ?_
      refine gj_iconst (pc := 20) cx d_E_heard_20 (v := (-1)) (by decide) ?_
      refine gj_icmp_eq (pc := 21) cx d_E_heard_21 (tgt := 28) rfl (fun hb2 => ?_) (fun hb2 => absurd hb2 (fun z => z rfl))
      refine gj_iconst (pc := 28) cx d_E_heard_28 (v := (-1)) (by decide) ?_
      exact gj_iretR (pc := 29) cx hr hlk d_E_heard_29 (by rw [eHeard]; split <;> first | rfl | rw [hT])
  · refine gj_toi (y := nI t) rfl ?_
    have htt := tpc_lt hn hT
    refine gj_istore (pc := 8) cx d_E_heard_8 (lo' := [(5, .int (nI t)), (0, .ref h), (1, .int nd), (2, .int kd), (3, .int bd), (4, .int qd)]) (by decide) rfl ?_
    refine gj_aload_n (pc := 10) cx d_E_heard_10 rfl (x := h) rfl ?_
    refine gj_iload_n (pc := 11) cx d_E_heard_11 rfl (x := nd) rfl ?_
    refine gj_callVRi (pc := 12) (As := [.int nd]) (rest := []) (v := bI (eCor n σ nd)) cx hK (c_E_isCorrect l D cI cJ cO h hN ad n f fa σ nd (by omega) (by omega)) (cwV 1 cx.2.2.2.2 (good_V wm_122 wm_120 wm_121 wm_538 wm_1) rfl rfl rfl (by decide +kernel) ⟨Nat.le_of_ble_eq_true rfl, Nat.le_of_ble_eq_true rfl⟩) gj_rP 0 1 rfl rfl rfl rfl rfl (Nat.le_of_ble_eq_true rfl) d_E_heard_12 ⟨Nat.zero_le _, Nat.zero_le _⟩ ?_
    refine gj_if_eqB (pc := 15) cx d_E_heard_15 (tgt := 28) rfl (fun hb3 => ?_) (fun hb3 => ?_)
    · refine gj_iconst (pc := 28) cx d_E_heard_28 (v := (-1)) (by decide) ?_
      exact gj_iretR (pc := 29) cx hr hlk d_E_heard_29 (by rw [eHeard, if_neg (fun z => by rw [hb3] at z; cases z.1)])
    · obtain ⟨x, hx, rfl, hcr⟩ := eCor_of hn hb3
      refine gj_iload (pc := 18) cx d_E_heard_18 (x := nI t) rfl ?_
      refine gj_iconst (pc := 20) cx d_E_heard_20 (v := (-1)) (by decide) ?_
      refine gj_icmp_eq (pc := 21) cx d_E_heard_21 (tgt := 28) rfl (fun hb4 => absurd hb4 (nI_m1 (by omega))) (fun hb4 => ?_)
      refine gj_iload_n (pc := 24) cx d_E_heard_24 rfl (x := kd) rfl ?_
      refine gj_if_ne (pc := 25) cx d_E_heard_25 (tgt := 30) rfl (fun hb5 => ?_) (fun hb5 => ?_)
      · refine gj_aload_n (pc := 30) cx d_E_heard_30 rfl (x := h) rfl ?_
        refine gj_get (pc := 31) (ci := 1) (C := R_E) (T := T_E) (N := 4) (v := .ref hN) cx hK gj_rP in_E d_E_heard_31 0 rfl rfl 2 (by decide) (in_WT wm_61) rfl ?_
        refine gj_iload_n (pc := 34) cx d_E_heard_34 rfl (x := nI x) rfl ?_
        refine gj_aald (pc := 35) (i := x) (x := ad x 0) cx hK gj_rP d_E_heard_35 1 2 rfl rfl (by omega) (by omega) rfl ?_
        refine gj_iload (pc := 36) cx d_E_heard_36 (x := nI t) rfl ?_
        refine gj_callVRi (pc := 38) (As := [.int (nI t)]) (rest := []) (v := nI (nTell (σ x) t n)) cx hKn (c_N_countTellers l D cI cJ (ad x) x n f (σ x) t (by omega) (by omega)) (cwV 1 cx.2.2.2.2 (good_V wm_284 wm_281 wm_282 wm_283 wm_3) rfl rfl rfl (by decide +kernel) ⟨Nat.le_of_ble_eq_true rfl, Nat.le_of_ble_eq_true rfl⟩) (fun H locs hB => oW_P (by omega) (gj_rP H locs hB)) 0 0 rfl rfl rfl rfl rfl (Nat.le_of_ble_eq_true rfl) d_E_heard_38 ⟨Nat.zero_le _, Nat.zero_le _⟩ ?_
        have hv6 := nTell_lt (σ x) t n
        exact gj_iretR (pc := 41) cx hr hlk d_E_heard_41 (by rw [eHeard, if_pos ⟨hb3, hb5⟩, hT, xN_nI (by omega)])
      · refine gj_iconst (pc := 28) cx d_E_heard_28 (v := (-1)) (by decide) ?_
        exact gj_iretR (pc := 29) cx hr hlk d_E_heard_29 (by rw [eHeard, if_neg (fun z => z.2 hb5)])

set_option maxRecDepth 100000 in
set_option maxHeartbeats 4000000 in
theorem c_E_accepted (l : Launch) (D : va_G) (cI cJ cO : ClassId) (h hN : Nat) (ad : Nat → Nat → Nat) (n f fa : Nat) (σ : Nat → NS) (nd : Int32) (bd : Int32) (qd : Int32) (hn : n ≤ 7) (hs : ∀ x, x < n → nInv n (σ x)) : MRl l y_E_accepted (wsM y_E_accepted b_E_accepted 5 (some .long)) { frames := 2, cells := 0, slots := 0, locals := 45 } D vwK (tyo cI cJ cO) (oW cI cJ cO h hN ad n f fa σ) [.ref h, .int nd, .int bd, .int qd] (eAcc n σ nd bd qd) := by
  refine gj_enterR (own := R_E) (by decide) rfl (Nat.le_of_ble_eq_true rfl) rfl rfl (fun p e s m below meth c cx hr hlk hK => ?_)
  have hKn : va_K D vwK (tyl cI cJ) s := hK.sub [0, 1] rfl
  refine gj_aload_n (pc := 0) cx d_E_accepted_0 rfl (x := h) rfl ?_
  refine gj_iconst (pc := 1) cx d_E_accepted_1 (v := nI 3) (by decide) ?_
  refine gj_iload_n (pc := 2) cx d_E_accepted_2 rfl (x := bd) rfl ?_
  refine gj_iload_n (pc := 3) cx d_E_accepted_3 rfl (x := qd) rfl ?_
  refine gj_callVRi (pc := 4) (As := [.int (nI 3), .int bd, .int qd]) (rest := []) (v := tpI (tpc n (nI 3) bd qd)) cx hK (c_E_topicOf l D cI cJ cO h hN ad n f fa σ (nI 3) bd qd (by omega)) (cwV 3 cx.2.2.2.2 (good_V wm_137 wm_135 wm_136 wm_539 wm_1) rfl rfl rfl (by decide +kernel) ⟨Nat.le_of_ble_eq_true rfl, Nat.le_of_ble_eq_true rfl⟩) gj_rP 0 1 rfl rfl rfl rfl rfl (Nat.le_of_ble_eq_true rfl) d_E_accepted_4 ⟨Nat.zero_le _, Nat.zero_le _⟩ ?_
  rcases hT : tpc n (nI 3) bd qd with _ | t
  · refine gj_toi (y := (-1)) rfl ?_
    refine gj_istore (pc := 7) cx d_E_accepted_7 (lo' := [(4, .int (-1)), (0, .ref h), (1, .int nd), (2, .int bd), (3, .int qd)]) (by decide) rfl ?_
    refine gj_aload_n (pc := 9) cx d_E_accepted_9 rfl (x := h) rfl ?_
    refine gj_iload_n (pc := 10) cx d_E_accepted_10 rfl (x := nd) rfl ?_
    refine gj_callVRi (pc := 11) (As := [.int nd]) (rest := []) (v := bI (eCor n σ nd)) cx hK (c_E_isCorrect l D cI cJ cO h hN ad n f fa σ nd (by omega) (by omega)) (cwV 1 cx.2.2.2.2 (good_V wm_122 wm_120 wm_121 wm_538 wm_1) rfl rfl rfl (by decide +kernel) ⟨Nat.le_of_ble_eq_true rfl, Nat.le_of_ble_eq_true rfl⟩) gj_rP 0 1 rfl rfl rfl rfl rfl (Nat.le_of_ble_eq_true rfl) d_E_accepted_11 ⟨Nat.zero_le _, Nat.zero_le _⟩ ?_
    refine gj_if_eqB (pc := 14) cx d_E_accepted_14 (tgt := 40) rfl (fun hb1 => ?_) (fun hb1 => ?_)
    · refine gj_ldc2 (pc := 40) cx d_E_accepted_40 (v := (-1)) (in_WT wm_219) ?_
      exact gj_lretR (pc := 43) cx hr hlk d_E_accepted_43 (by rw [eAcc, if_neg (by rw [hb1]; decide)])
    · obtain ⟨x, hx, rfl, hcr⟩ := eCor_of hn hb1
      refine gj_iload (pc := 17) cx d_E_accepted_17 (x := (-1)) rfl ?_
      refine gj_iconst (pc := 19) cx d_E_accepted_19 (v := (-1)) (by decide) ?_
      refine gj_icmp_eq (pc := 20) cx d_E_accepted_20 (tgt := 40) rfl (fun hb2 => ?_) (fun hb2 => absurd hb2 (fun z => z rfl))
      refine gj_ldc2 (pc := 40) cx d_E_accepted_40 (v := (-1)) (in_WT wm_219) ?_
      exact gj_lretR (pc := 43) cx hr hlk d_E_accepted_43 (by rw [eAcc, if_pos hb1, show tpc n 3 bd qd = _ from hT])
  · refine gj_toi (y := nI t) rfl ?_
    have htt := tpc_lt hn hT
    refine gj_istore (pc := 7) cx d_E_accepted_7 (lo' := [(4, .int (nI t)), (0, .ref h), (1, .int nd), (2, .int bd), (3, .int qd)]) (by decide) rfl ?_
    refine gj_aload_n (pc := 9) cx d_E_accepted_9 rfl (x := h) rfl ?_
    refine gj_iload_n (pc := 10) cx d_E_accepted_10 rfl (x := nd) rfl ?_
    refine gj_callVRi (pc := 11) (As := [.int nd]) (rest := []) (v := bI (eCor n σ nd)) cx hK (c_E_isCorrect l D cI cJ cO h hN ad n f fa σ nd (by omega) (by omega)) (cwV 1 cx.2.2.2.2 (good_V wm_122 wm_120 wm_121 wm_538 wm_1) rfl rfl rfl (by decide +kernel) ⟨Nat.le_of_ble_eq_true rfl, Nat.le_of_ble_eq_true rfl⟩) gj_rP 0 1 rfl rfl rfl rfl rfl (Nat.le_of_ble_eq_true rfl) d_E_accepted_11 ⟨Nat.zero_le _, Nat.zero_le _⟩ ?_
    refine gj_if_eqB (pc := 14) cx d_E_accepted_14 (tgt := 40) rfl (fun hb3 => ?_) (fun hb3 => ?_)
    · refine gj_ldc2 (pc := 40) cx d_E_accepted_40 (v := (-1)) (in_WT wm_219) ?_
      exact gj_lretR (pc := 43) cx hr hlk d_E_accepted_43 (by rw [eAcc, if_neg (by rw [hb3]; decide)])
    · obtain ⟨x, hx, rfl, hcr⟩ := eCor_of hn hb3
      refine gj_iload (pc := 17) cx d_E_accepted_17 (x := nI t) rfl ?_
      refine gj_iconst (pc := 19) cx d_E_accepted_19 (v := (-1)) (by decide) ?_
      refine gj_icmp_eq (pc := 20) cx d_E_accepted_20 (tgt := 40) rfl (fun hb4 => absurd hb4 (nI_m1 (by omega))) (fun hb4 => ?_)
      refine gj_aload_n (pc := 23) cx d_E_accepted_23 rfl (x := h) rfl ?_
      refine gj_get (pc := 24) (ci := 1) (C := R_E) (T := T_E) (N := 4) (v := .ref hN) cx hK gj_rP in_E d_E_accepted_24 0 rfl rfl 2 (by decide) (in_WT wm_61) rfl ?_
      refine gj_iload_n (pc := 27) cx d_E_accepted_27 rfl (x := nI x) rfl ?_
      refine gj_aald (pc := 28) (i := x) (x := ad x 0) cx hK gj_rP d_E_accepted_28 1 2 rfl rfl (by omega) (by omega) rfl ?_
      refine gj_iload (pc := 29) cx d_E_accepted_29 (x := nI t) rfl ?_
      refine gj_callSRi (pc := 31) (As := [.int (nI t)]) (rest := [.ref (ad x 0)]) (v := nI (t % 35)) cx hK (c_T_instance l D (tyo cI cJ cO) t (by omega)) (va_cwS 1 cx.2.2.2.2 (good_S wm_175 wm_289 wm_174 wm_6) rfl rfl rfl (by decide +kernel) ⟨Nat.le_of_ble_eq_true rfl, Nat.le_of_ble_eq_true rfl⟩) (fun _ _ _ => gj_P0) rfl rfl (Nat.le_of_ble_eq_true rfl) d_E_accepted_31 ⟨Nat.zero_le _, Nat.zero_le _⟩ ?_
      refine gj_callVRl (pc := 34) (As := [.int (nI (t % 35))]) (rest := []) (v := nAc (σ x) (t % 35)) cx hKn (c_N_acceptedFor l D cI cJ (ad x) x n f (σ x) (t % 35) (by omega)) (cwV 1 cx.2.2.2.2 (good_V wm_293 wm_290 wm_291 wm_292 wm_3) rfl rfl rfl (by decide +kernel) ⟨Nat.le_of_ble_eq_true rfl, Nat.le_of_ble_eq_true rfl⟩) (fun H locs hB => oW_P (by omega) (gj_rP H locs hB)) 0 0 rfl rfl rfl rfl rfl (Nat.le_of_ble_eq_true rfl) d_E_accepted_34 ⟨Nat.zero_le _, Nat.zero_le _⟩ ?_
      refine gj_goto (pc := 37) cx d_E_accepted_37 (tgt := 43) rfl ?_
      exact gj_lretR (pc := 43) cx hr hlk d_E_accepted_43 (by rw [eAcc, if_pos hb3, show tpc n 3 bd qd = _ from hT, xN_nI (by omega)])

set_option maxRecDepth 100000 in
set_option maxHeartbeats 4000000 in
theorem c_E_applied (l : Launch) (D : va_G) (cI cJ cO : ClassId) (h hN : Nat) (ad : Nat → Nat → Nat) (n f fa : Nat) (σ : Nat → NS) (nd : Int32) (bd : Int32) (hn : n ≤ 7) (hs : ∀ x, x < n → nInv n (σ x)) : MRi l y_E_applied (wsM y_E_applied b_E_applied 3 (some .int)) { frames := 2, cells := 0, slots := 0, locals := 42 } D vwK (tyo cI cJ cO) (oW cI cJ cO h hN ad n f fa σ) [.ref h, .int nd, .int bd] (eApd n σ nd bd) := by
  refine gj_enterR (own := R_E) (by decide) rfl (Nat.le_of_ble_eq_true rfl) rfl rfl (fun p e s m below meth c cx hr hlk hK => ?_)
  have hKn : va_K D vwK (tyl cI cJ) s := hK.sub [0, 1] rfl
  refine gj_aload_n (pc := 0) cx d_E_applied_0 rfl (x := h) rfl ?_
  refine gj_iload_n (pc := 1) cx d_E_applied_1 rfl (x := nd) rfl ?_
  refine gj_callVRi (pc := 2) (As := [.int nd]) (rest := []) (v := bI (eCor n σ nd)) cx hK (c_E_isCorrect l D cI cJ cO h hN ad n f fa σ nd (by omega) (by omega)) (cwV 1 cx.2.2.2.2 (good_V wm_122 wm_120 wm_121 wm_538 wm_1) rfl rfl rfl (by decide +kernel) ⟨Nat.le_of_ble_eq_true rfl, Nat.le_of_ble_eq_true rfl⟩) gj_rP 0 1 rfl rfl rfl rfl rfl (Nat.le_of_ble_eq_true rfl) d_E_applied_2 ⟨Nat.zero_le _, Nat.zero_le _⟩ ?_
  refine gj_if_eqB (pc := 5) cx d_E_applied_5 (tgt := 29) rfl (fun hb1 => ?_) (fun hb1 => ?_)
  · refine gj_iconst (pc := 29) cx d_E_applied_29 (v := (-1)) (by decide) ?_
    exact gj_iretR (pc := 30) cx hr hlk d_E_applied_30 (by rw [eApd, if_neg (fun z => by rw [hb1] at z; cases z.1)])
  · obtain ⟨x, hx, rfl, hcr⟩ := eCor_of hn hb1
    refine gj_aload_n (pc := 8) cx d_E_applied_8 rfl (x := h) rfl ?_
    refine gj_iload_n (pc := 9) cx d_E_applied_9 rfl (x := bd) rfl ?_
    refine gj_callVRi (pc := 10) (As := [.int bd]) (rest := []) (v := bI (isN n bd)) cx hK (c_E_isNode l D cI cJ cO h hN ad n f fa σ bd ) (cwV 1 cx.2.2.2.2 (good_V wm_76 wm_74 wm_75 wm_533 wm_1) rfl rfl rfl (by decide +kernel) ⟨Nat.le_of_ble_eq_true rfl, Nat.le_of_ble_eq_true rfl⟩) gj_rP 0 1 rfl rfl rfl rfl rfl (Nat.le_of_ble_eq_true rfl) d_E_applied_10 ⟨Nat.zero_le _, Nat.zero_le _⟩ ?_
    refine gj_if_eqB (pc := 13) cx d_E_applied_13 (tgt := 29) rfl (fun hb2 => ?_) (fun hb2 => ?_)
    · refine gj_iconst (pc := 29) cx d_E_applied_29 (v := (-1)) (by decide) ?_
      exact gj_iretR (pc := 30) cx hr hlk d_E_applied_30 (by rw [eApd, if_neg (fun z => by rw [hb2] at z; cases z.2)])
    · obtain ⟨b, hb, rfl⟩ := isN_of hn hb2
      refine gj_aload_n (pc := 16) cx d_E_applied_16 rfl (x := h) rfl ?_
      refine gj_get (pc := 17) (ci := 1) (C := R_E) (T := T_E) (N := 4) (v := .ref hN) cx hK gj_rP in_E d_E_applied_17 0 rfl rfl 2 (by decide) (in_WT wm_61) rfl ?_
      refine gj_iload_n (pc := 20) cx d_E_applied_20 rfl (x := nI x) rfl ?_
      refine gj_aald (pc := 21) (i := x) (x := ad x 0) cx hK gj_rP d_E_applied_21 1 2 rfl rfl (by omega) (by omega) rfl ?_
      refine gj_iload_n (pc := 22) cx d_E_applied_22 rfl (x := nI b) rfl ?_
      refine gj_callVRi (pc := 23) (As := [.int (nI b)]) (rest := []) (v := nI (nCn (σ x) b)) cx hKn (c_N_appliedOf l D cI cJ (ad x) x n f (σ x) b (by omega)) (cwV 1 cx.2.2.2.2 (good_V wm_301 wm_298 wm_299 wm_300 wm_3) rfl rfl rfl (by decide +kernel) ⟨Nat.le_of_ble_eq_true rfl, Nat.le_of_ble_eq_true rfl⟩) (fun H locs hB => oW_P (by omega) (gj_rP H locs hB)) 0 0 rfl rfl rfl rfl rfl (Nat.le_of_ble_eq_true rfl) d_E_applied_23 ⟨Nat.zero_le _, Nat.zero_le _⟩ ?_
      refine gj_goto (pc := 26) cx d_E_applied_26 (tgt := 30) rfl ?_
      exact gj_iretR (pc := 30) cx hr hlk d_E_applied_30 (by rw [eApd, if_pos ⟨hb1, hb2⟩, xN_nI (by omega), xN_nI (by omega)])

set_option maxRecDepth 100000 in
set_option maxHeartbeats 4000000 in
theorem c_E_balance (l : Launch) (D : va_G) (cI cJ cO : ClassId) (h hN : Nat) (ad : Nat → Nat → Nat) (n f fa : Nat) (σ : Nat → NS) (nd : Int32) (bd : Int32) (hn : n ≤ 7) (hs : ∀ x, x < n → nInv n (σ x)) : MRl l y_E_balance (wsM y_E_balance b_E_balance 3 (some .long)) { frames := 2, cells := 0, slots := 0, locals := 42 } D vwK (tyo cI cJ cO) (oW cI cJ cO h hN ad n f fa σ) [.ref h, .int nd, .int bd] (eBal n σ nd bd) := by
  refine gj_enterR (own := R_E) (by decide) rfl (Nat.le_of_ble_eq_true rfl) rfl rfl (fun p e s m below meth c cx hr hlk hK => ?_)
  have hKn : va_K D vwK (tyl cI cJ) s := hK.sub [0, 1] rfl
  refine gj_aload_n (pc := 0) cx d_E_balance_0 rfl (x := h) rfl ?_
  refine gj_iload_n (pc := 1) cx d_E_balance_1 rfl (x := nd) rfl ?_
  refine gj_callVRi (pc := 2) (As := [.int nd]) (rest := []) (v := bI (eCor n σ nd)) cx hK (c_E_isCorrect l D cI cJ cO h hN ad n f fa σ nd (by omega) (by omega)) (cwV 1 cx.2.2.2.2 (good_V wm_122 wm_120 wm_121 wm_538 wm_1) rfl rfl rfl (by decide +kernel) ⟨Nat.le_of_ble_eq_true rfl, Nat.le_of_ble_eq_true rfl⟩) gj_rP 0 1 rfl rfl rfl rfl rfl (Nat.le_of_ble_eq_true rfl) d_E_balance_2 ⟨Nat.zero_le _, Nat.zero_le _⟩ ?_
  refine gj_if_eqB (pc := 5) cx d_E_balance_5 (tgt := 29) rfl (fun hb1 => ?_) (fun hb1 => ?_)
  · refine gj_ldc2 (pc := 29) cx d_E_balance_29 (v := (-1)) (in_WT wm_219) ?_
    exact gj_lretR (pc := 32) cx hr hlk d_E_balance_32 (by rw [eBal, if_neg (fun z => by rw [hb1] at z; cases z.1)])
  · obtain ⟨x, hx, rfl, hcr⟩ := eCor_of hn hb1
    refine gj_aload_n (pc := 8) cx d_E_balance_8 rfl (x := h) rfl ?_
    refine gj_iload_n (pc := 9) cx d_E_balance_9 rfl (x := bd) rfl ?_
    refine gj_callVRi (pc := 10) (As := [.int bd]) (rest := []) (v := bI (isN n bd)) cx hK (c_E_isNode l D cI cJ cO h hN ad n f fa σ bd ) (cwV 1 cx.2.2.2.2 (good_V wm_76 wm_74 wm_75 wm_533 wm_1) rfl rfl rfl (by decide +kernel) ⟨Nat.le_of_ble_eq_true rfl, Nat.le_of_ble_eq_true rfl⟩) gj_rP 0 1 rfl rfl rfl rfl rfl (Nat.le_of_ble_eq_true rfl) d_E_balance_10 ⟨Nat.zero_le _, Nat.zero_le _⟩ ?_
    refine gj_if_eqB (pc := 13) cx d_E_balance_13 (tgt := 29) rfl (fun hb2 => ?_) (fun hb2 => ?_)
    · refine gj_ldc2 (pc := 29) cx d_E_balance_29 (v := (-1)) (in_WT wm_219) ?_
      exact gj_lretR (pc := 32) cx hr hlk d_E_balance_32 (by rw [eBal, if_neg (fun z => by rw [hb2] at z; cases z.2)])
    · obtain ⟨b, hb, rfl⟩ := isN_of hn hb2
      refine gj_aload_n (pc := 16) cx d_E_balance_16 rfl (x := h) rfl ?_
      refine gj_get (pc := 17) (ci := 1) (C := R_E) (T := T_E) (N := 4) (v := .ref hN) cx hK gj_rP in_E d_E_balance_17 0 rfl rfl 2 (by decide) (in_WT wm_61) rfl ?_
      refine gj_iload_n (pc := 20) cx d_E_balance_20 rfl (x := nI x) rfl ?_
      refine gj_aald (pc := 21) (i := x) (x := ad x 0) cx hK gj_rP d_E_balance_21 1 2 rfl rfl (by omega) (by omega) rfl ?_
      refine gj_iload_n (pc := 22) cx d_E_balance_22 rfl (x := nI b) rfl ?_
      refine gj_callVRl (pc := 23) (As := [.int (nI b)]) (rest := []) (v := nBa (σ x) b) cx hKn (c_N_balanceOf l D cI cJ (ad x) x n f (σ x) b (by omega)) (cwV 1 cx.2.2.2.2 (good_V wm_309 wm_306 wm_307 wm_308 wm_3) rfl rfl rfl (by decide +kernel) ⟨Nat.le_of_ble_eq_true rfl, Nat.le_of_ble_eq_true rfl⟩) (fun H locs hB => oW_P (by omega) (gj_rP H locs hB)) 0 0 rfl rfl rfl rfl rfl (Nat.le_of_ble_eq_true rfl) d_E_balance_23 ⟨Nat.zero_le _, Nat.zero_le _⟩ ?_
      refine gj_goto (pc := 26) cx d_E_balance_26 (tgt := 32) rfl ?_
      exact gj_lretR (pc := 32) cx hr hlk d_E_balance_32 (by rw [eBal, if_pos ⟨hb1, hb2⟩, xN_nI (by omega), xN_nI (by omega)])

set_option maxRecDepth 100000 in
set_option maxHeartbeats 4000000 in
theorem c_E_freed (l : Launch) (D : va_G) (cI cJ cO : ClassId) (h hN : Nat) (ad : Nat → Nat → Nat) (n f fa : Nat) (σ : Nat → NS) (nd : Int32) (bd : Int32) (hn : n ≤ 7) (hs : ∀ x, x < n → nInv n (σ x)) : MRi l y_E_freed (wsM y_E_freed b_E_freed 3 (some .int)) { frames := 2, cells := 0, slots := 0, locals := 42 } D vwK (tyo cI cJ cO) (oW cI cJ cO h hN ad n f fa σ) [.ref h, .int nd, .int bd] (eFrd n σ nd bd) := by
  refine gj_enterR (own := R_E) (by decide) rfl (Nat.le_of_ble_eq_true rfl) rfl rfl (fun p e s m below meth c cx hr hlk hK => ?_)
  have hKn : va_K D vwK (tyl cI cJ) s := hK.sub [0, 1] rfl
  refine gj_aload_n (pc := 0) cx d_E_freed_0 rfl (x := h) rfl ?_
  refine gj_iload_n (pc := 1) cx d_E_freed_1 rfl (x := nd) rfl ?_
  refine gj_callVRi (pc := 2) (As := [.int nd]) (rest := []) (v := bI (eCor n σ nd)) cx hK (c_E_isCorrect l D cI cJ cO h hN ad n f fa σ nd (by omega) (by omega)) (cwV 1 cx.2.2.2.2 (good_V wm_122 wm_120 wm_121 wm_538 wm_1) rfl rfl rfl (by decide +kernel) ⟨Nat.le_of_ble_eq_true rfl, Nat.le_of_ble_eq_true rfl⟩) gj_rP 0 1 rfl rfl rfl rfl rfl (Nat.le_of_ble_eq_true rfl) d_E_freed_2 ⟨Nat.zero_le _, Nat.zero_le _⟩ ?_
  refine gj_if_eqB (pc := 5) cx d_E_freed_5 (tgt := 29) rfl (fun hb1 => ?_) (fun hb1 => ?_)
  · refine gj_iconst (pc := 29) cx d_E_freed_29 (v := (-1)) (by decide) ?_
    exact gj_iretR (pc := 30) cx hr hlk d_E_freed_30 (by rw [eFrd, if_neg (fun z => by rw [hb1] at z; cases z.1)])
  · obtain ⟨x, hx, rfl, hcr⟩ := eCor_of hn hb1
    refine gj_aload_n (pc := 8) cx d_E_freed_8 rfl (x := h) rfl ?_
    refine gj_iload_n (pc := 9) cx d_E_freed_9 rfl (x := bd) rfl ?_
    refine gj_callVRi (pc := 10) (As := [.int bd]) (rest := []) (v := bI (isN n bd)) cx hK (c_E_isNode l D cI cJ cO h hN ad n f fa σ bd ) (cwV 1 cx.2.2.2.2 (good_V wm_76 wm_74 wm_75 wm_533 wm_1) rfl rfl rfl (by decide +kernel) ⟨Nat.le_of_ble_eq_true rfl, Nat.le_of_ble_eq_true rfl⟩) gj_rP 0 1 rfl rfl rfl rfl rfl (Nat.le_of_ble_eq_true rfl) d_E_freed_10 ⟨Nat.zero_le _, Nat.zero_le _⟩ ?_
    refine gj_if_eqB (pc := 13) cx d_E_freed_13 (tgt := 29) rfl (fun hb2 => ?_) (fun hb2 => ?_)
    · refine gj_iconst (pc := 29) cx d_E_freed_29 (v := (-1)) (by decide) ?_
      exact gj_iretR (pc := 30) cx hr hlk d_E_freed_30 (by rw [eFrd, if_neg (fun z => by rw [hb2] at z; cases z.2)])
    · obtain ⟨b, hb, rfl⟩ := isN_of hn hb2
      refine gj_aload_n (pc := 16) cx d_E_freed_16 rfl (x := h) rfl ?_
      refine gj_get (pc := 17) (ci := 1) (C := R_E) (T := T_E) (N := 4) (v := .ref hN) cx hK gj_rP in_E d_E_freed_17 0 rfl rfl 2 (by decide) (in_WT wm_61) rfl ?_
      refine gj_iload_n (pc := 20) cx d_E_freed_20 rfl (x := nI x) rfl ?_
      refine gj_aald (pc := 21) (i := x) (x := ad x 0) cx hK gj_rP d_E_freed_21 1 2 rfl rfl (by omega) (by omega) rfl ?_
      refine gj_iload_n (pc := 22) cx d_E_freed_22 rfl (x := nI b) rfl ?_
      refine gj_callVRi (pc := 23) (As := [.int (nI b)]) (rest := []) (v := nI (nFr (σ x) b)) cx hKn (c_N_freedOf l D cI cJ (ad x) x n f (σ x) b (by omega)) (cwV 1 cx.2.2.2.2 (good_V wm_317 wm_314 wm_315 wm_316 wm_3) rfl rfl rfl (by decide +kernel) ⟨Nat.le_of_ble_eq_true rfl, Nat.le_of_ble_eq_true rfl⟩) (fun H locs hB => oW_P (by omega) (gj_rP H locs hB)) 0 0 rfl rfl rfl rfl rfl (Nat.le_of_ble_eq_true rfl) d_E_freed_23 ⟨Nat.zero_le _, Nat.zero_le _⟩ ?_
      refine gj_goto (pc := 26) cx d_E_freed_26 (tgt := 30) rfl ?_
      exact gj_iretR (pc := 30) cx hr hlk d_E_freed_30 (by rw [eFrd, if_pos ⟨hb1, hb2⟩, xN_nI (by omega), xN_nI (by omega)])

set_option maxRecDepth 100000 in
set_option maxHeartbeats 4000000 in
theorem c_E_kept (l : Launch) (D : va_G) (cI cJ cO : ClassId) (h hN : Nat) (ad : Nat → Nat → Nat) (n f fa : Nat) (σ : Nat → NS) (nd : Int32) (hn : n ≤ 7) (hs : ∀ x, x < n → nInv n (σ x)) : MRi l y_E_kept (wsM y_E_kept b_E_kept 2 (some .int)) { frames := 3, cells := 0, slots := 0, locals := 66 } D vwK (tyo cI cJ cO) (oW cI cJ cO h hN ad n f fa σ) [.ref h, .int nd] (eKept n σ nd) := by
  refine gj_enterR (own := R_E) (by decide) rfl (Nat.le_of_ble_eq_true rfl) rfl rfl (fun p e s m below meth c cx hr hlk hK => ?_)
  have hKn : va_K D vwK (tyl cI cJ) s := hK.sub [0, 1] rfl
  refine gj_aload_n (pc := 0) cx d_E_kept_0 rfl (x := h) rfl ?_
  refine gj_iload_n (pc := 1) cx d_E_kept_1 rfl (x := nd) rfl ?_
  refine gj_callVRi (pc := 2) (As := [.int nd]) (rest := []) (v := bI (eCor n σ nd)) cx hK (c_E_isCorrect l D cI cJ cO h hN ad n f fa σ nd (by omega) (by omega)) (cwV 1 cx.2.2.2.2 (good_V wm_122 wm_120 wm_121 wm_538 wm_1) rfl rfl rfl (by decide +kernel) ⟨Nat.le_of_ble_eq_true rfl, Nat.le_of_ble_eq_true rfl⟩) gj_rP 0 1 rfl rfl rfl rfl rfl (Nat.le_of_ble_eq_true rfl) d_E_kept_2 ⟨Nat.zero_le _, Nat.zero_le _⟩ ?_
  refine gj_if_eqB (pc := 5) cx d_E_kept_5 (tgt := 20) rfl (fun hb1 => ?_) (fun hb1 => ?_)
  · refine gj_iconst (pc := 20) cx d_E_kept_20 (v := (-1)) (by decide) ?_
    exact gj_iretR (pc := 21) cx hr hlk d_E_kept_21 (by rw [eKept, if_neg (by rw [hb1]; decide)])
  · obtain ⟨x, hx, rfl, hcr⟩ := eCor_of hn hb1
    refine gj_aload_n (pc := 8) cx d_E_kept_8 rfl (x := h) rfl ?_
    refine gj_get (pc := 9) (ci := 1) (C := R_E) (T := T_E) (N := 4) (v := .ref hN) cx hK gj_rP in_E d_E_kept_9 0 rfl rfl 2 (by decide) (in_WT wm_61) rfl ?_
    refine gj_iload_n (pc := 12) cx d_E_kept_12 rfl (x := nI x) rfl ?_
    refine gj_aald (pc := 13) (i := x) (x := ad x 0) cx hK gj_rP d_E_kept_13 1 2 rfl rfl (by omega) (by omega) rfl ?_
    refine gj_callVRi (pc := 14) (As := []) (rest := []) (v := nI (nKept (σ x) n)) cx hKn (c_N_countKept l D cI cJ (ad x) x n f (σ x)  (by omega)) (cwV 0 cx.2.2.2.2 (good_V wm_325 wm_322 wm_323 wm_324 wm_3) rfl rfl rfl (by decide +kernel) ⟨Nat.le_of_ble_eq_true rfl, Nat.le_of_ble_eq_true rfl⟩) (fun H locs hB => oW_P (by omega) (gj_rP H locs hB)) 0 0 rfl rfl rfl rfl rfl (Nat.le_of_ble_eq_true rfl) d_E_kept_14 ⟨Nat.zero_le _, Nat.zero_le _⟩ ?_
    refine gj_goto (pc := 17) cx d_E_kept_17 (tgt := 21) rfl ?_
    exact gj_iretR (pc := 21) cx hr hlk d_E_kept_21 (by rw [eKept, if_pos hb1, xN_nI (by omega)])

set_option maxRecDepth 100000 in
set_option maxHeartbeats 4000000 in
theorem c_E_takers (l : Launch) (D : va_G) (cI cJ cO : ClassId) (h hN : Nat) (ad : Nat → Nat → Nat) (n f fa : Nat) (σ : Nat → NS) (t : Nat) (y : Nat) (hn : n ≤ 7) (hs : ∀ x, x < n → nInv n (σ x)) (ht : t < 141) (hy : y < n) : MRi l y_E_takers (wsM y_E_takers b_E_takers 7 (some .int)) { frames := 3, cells := 0, slots := 0, locals := 73 } D vwK (tyo cI cJ cO) (oW cI cJ cO h hN ad n f fa σ) [.ref h, .int (nI t), .int (nI y)] (nI (eTak n σ t y)) := by
  refine gj_enterR (own := R_E) (by decide) rfl (Nat.le_of_ble_eq_true rfl) rfl rfl (fun p e s m below meth c cx hr hlk hK => ?_)
  have hKn : va_K D vwK (tyl cI cJ) s := hK.sub [0, 1] rfl
  refine gj_aload_n (pc := 0) cx d_E_takers_0 rfl (x := h) rfl ?_
  refine gj_get (pc := 1) (ci := 1) (C := R_E) (T := T_E) (N := 4) (v := .ref hN) cx hK gj_rP in_E d_E_takers_1 0 rfl rfl 2 (by decide) (in_WT wm_61) rfl ?_
  refine gj_iload_n (pc := 4) cx d_E_takers_4 rfl (x := nI y) rfl ?_
  refine gj_aald (pc := 5) (i := y) (x := ad y 0) cx hK gj_rP d_E_takers_5 1 2 rfl rfl (by omega) (by omega) rfl ?_
  refine gj_iload_n (pc := 6) cx d_E_takers_6 rfl (x := nI t) rfl ?_
  refine gj_callVRl (pc := 7) (As := [.int (nI t)]) (rest := []) (v := nSa (σ y) t) cx hKn (c_N_said l D cI cJ (ad y) y n f (σ y) t (by omega)) (cwV 1 cx.2.2.2.2 (good_V wm_218 wm_215 wm_216 wm_217 wm_3) rfl rfl rfl (by decide +kernel) ⟨Nat.le_of_ble_eq_true rfl, Nat.le_of_ble_eq_true rfl⟩) (fun H locs hB => oW_P (by omega) (gj_rP H locs hB)) 0 0 rfl rfl rfl rfl rfl (Nat.le_of_ble_eq_true rfl) d_E_takers_7 ⟨Nat.zero_le _, Nat.zero_le _⟩ ?_
  refine gj_lstore_n (pc := 10) cx d_E_takers_10 rfl (lo' := [(3, .long (nSa (σ y) t)), (0, .ref h), (1, .int (nI t)), (2, .int (nI y))]) (by decide) rfl ?_
  refine gj_lload_n (pc := 11) cx d_E_takers_11 rfl (x := nSa (σ y) t) rfl ?_
  refine gj_ldc2 (pc := 12) cx d_E_takers_12 (v := (-1)) (in_WT wm_219) ?_
  refine gj_lcmp_eq (pc := 15) cx d_E_takers_15 d_E_takers_16 (tgt := 27) rfl (fun hb1 => ?_) (fun hb1 => ?_)
  · refine gj_iconst (pc := 27) cx d_E_takers_27 (v := nI 0) (by decide) ?_
    exact gj_iretR (pc := 28) cx hr hlk d_E_takers_28 (by rw [eTak_0a hb1])
  · refine gj_aload_n (pc := 19) cx d_E_takers_19 rfl (x := h) rfl ?_
    refine gj_iload_n (pc := 20) cx d_E_takers_20 rfl (x := nI y) rfl ?_
    refine gj_callVRi (pc := 21) (As := [.int (nI y)]) (rest := []) (v := bI (eCor n σ (nI y))) cx hK (c_E_isCorrect l D cI cJ cO h hN ad n f fa σ (nI y) (by omega) (hs)) (cwV 1 cx.2.2.2.2 (good_V wm_122 wm_120 wm_121 wm_538 wm_1) rfl rfl rfl (by decide +kernel) ⟨Nat.le_of_ble_eq_true rfl, Nat.le_of_ble_eq_true rfl⟩) gj_rP 0 1 rfl rfl rfl rfl rfl (Nat.le_of_ble_eq_true rfl) d_E_takers_21 ⟨Nat.zero_le _, Nat.zero_le _⟩ ?_
    refine gj_if_neB (pc := 24) cx d_E_takers_24 (tgt := 29) rfl (fun hb2 => ?_) (fun hb2 => ?_)
    · have hyc : nCo (σ y) ≠ 2 := by simpa [eCor_N hn hy] using hb2
      refine gj_iconst (pc := 29) cx d_E_takers_29 (v := nI 0) (by decide) ?_
      refine gj_istore (pc := 30) cx d_E_takers_30 (lo' := [(5, .int (nI 0)), (3, .long (nSa (σ y) t)), (0, .ref h), (1, .int (nI t)), (2, .int (nI y))]) (by decide) rfl ?_
      refine gj_iconst (pc := 32) cx d_E_takers_32 (v := nI 0) (by decide) ?_
      refine gj_istore (pc := 33) cx d_E_takers_33 (lo' := [(6, .int (nI 0)), (5, .int (nI 0)), (3, .long (nSa (σ y) t)), (0, .ref h), (1, .int (nI t)), (2, .int (nI y))]) (by decide) rfl ?_
      refine gj_pick (lo' := [(0, .ref h), (1, .int (nI t)), (2, .int (nI y)), (3, .long (nSa (σ y) t)), (5, .int (nI 0)), (6, .int (nI 0))]) [3, 4, 5, 2, 1, 0] rfl ?_
      refine gj_forG (G := Gj p l e _ s m _ below meth c _ _ _ _ _) n 35 (fun i => [(0, .ref h), (1, .int (nI t)), (2, .int (nI y)), (3, .long (nSa (σ y) t)), (5, .int (nI (msk (ePd σ t y) i))), (6, .int (nI i))]) (fun i => oW cI cJ cO h hN ad n f fa σ) (fun i hi ihi => ?_) 0 (by omega)
      refine gj_iload (pc := 35) cx d_E_takers_35 (x := nI i) rfl ?_
      refine gj_aload_n (pc := 37) cx d_E_takers_37 rfl (x := h) rfl ?_
      refine gj_get (pc := 38) (ci := 1) (C := R_E) (T := T_E) (N := 4) (v := .int (nI n)) cx hK gj_rP in_E d_E_takers_38 0 rfl rfl 0 (by decide) (in_WT wm_59) rfl ?_
      refine gj_icmp_geN (pc := 41) cx d_E_takers_41 (tgt := 75) rfl (by omega) (by omega) (fun hb3 => ?_) (fun hb3 => ?_)
      · refine gj_iload (pc := 75) cx d_E_takers_75 (x := nI (msk (ePd σ t y) i)) rfl ?_
        exact gj_iretR (pc := 77) cx hr hlk d_E_takers_77 (by rw [show i = n from (by omega)]; rfl)
      · refine gj_aload_n (pc := 44) cx d_E_takers_44 rfl (x := h) rfl ?_
        refine gj_get (pc := 45) (ci := 1) (C := R_E) (T := T_E) (N := 4) (v := .ref hN) cx hK gj_rP in_E d_E_takers_45 0 rfl rfl 2 (by decide) (in_WT wm_61) rfl ?_
        refine gj_iload (pc := 48) cx d_E_takers_48 (x := nI i) rfl ?_
        refine gj_aald (pc := 50) (i := i) (x := ad i 0) cx hK gj_rP d_E_takers_50 1 2 rfl rfl (by omega) (by omega) rfl ?_
        refine gj_iload_n (pc := 51) cx d_E_takers_51 rfl (x := nI t) rfl ?_
        refine gj_iload_n (pc := 52) cx d_E_takers_52 rfl (x := nI y) rfl ?_
        refine gj_lload_n (pc := 53) cx d_E_takers_53 rfl (x := nSa (σ y) t) rfl ?_
        refine gj_callVRi (pc := 54) (As := [.int (nI t), .int (nI y), .long (nSa (σ y) t)]) (rest := []) (v := bI (nWould (σ i) t y (nSa (σ y) t))) cx hKn (c_N_wouldTake l D cI cJ (ad i) i n f (σ i) t y (nSa (σ y) t) ((hs i (by omega)).1) (by omega) (by omega)) (cwV 3 cx.2.2.2.2 (good_V wm_233 wm_230 wm_231 wm_232 wm_3) rfl rfl rfl (by decide +kernel) ⟨Nat.le_of_ble_eq_true rfl, Nat.le_of_ble_eq_true rfl⟩) (fun H locs hB => oW_P (by omega) (gj_rP H locs hB)) 0 0 rfl rfl rfl rfl rfl (Nat.le_of_ble_eq_true rfl) d_E_takers_54 ⟨Nat.zero_le _, Nat.zero_le _⟩ ?_
        refine gj_if_eqB (pc := 57) cx d_E_takers_57 (tgt := 69) rfl (fun hb4 => ?_) (fun hb4 => ?_)
        · refine gj_iincN (pc := 69) cx d_E_takers_69 (k := 5) (d := 1) (lo' := [(6, .int (nI (i + 1))), (0, .ref h), (1, .int (nI t)), (2, .int (nI y)), (3, .long (nSa (σ y) t)), (5, .int (nI (msk (ePd σ t y) i)))]) rfl (by decide) (by decide) rfl ?_
          refine gj_goto (pc := 72) cx d_E_takers_72 (tgt := 35) rfl ?_
          refine gj_pick (lo' := [(0, .ref h), (1, .int (nI t)), (2, .int (nI y)), (3, .long (nSa (σ y) t)), (5, .int (nI (msk (ePd σ t y) i))), (6, .int (nI (i + 1)))]) [1, 2, 3, 4, 5, 0] rfl ?_
          exact gj_eq rfl (by rw [msk_f (by simp [ePd, hyc, hb1, hb4])]) rfl (rfl) (ihi (by omega))
        · refine gj_iload (pc := 60) cx d_E_takers_60 (x := nI (msk (ePd σ t y) i)) rfl ?_
          refine gj_iconst (pc := 62) cx d_E_takers_62 (v := nI 1) (by decide) ?_
          refine gj_iload (pc := 63) cx d_E_takers_63 (x := nI i) rfl ?_
          refine gj_ishlN (pc := 65) cx d_E_takers_65 (by omega) (by have : 2 ^ i ≤ 2 ^ 6 := Nat.pow_le_pow_right (by decide) (by omega); omega) ?_
          refine gj_ior (pc := 66) cx d_E_takers_66 ?_
          refine gj_toi (y := nI (msk (ePd σ t y) i + 2 ^ i)) (msk_or _ (by omega)) ?_
          refine gj_istore (pc := 67) cx d_E_takers_67 (lo' := [(5, .int (nI (msk (ePd σ t y) i + 2 ^ i))), (0, .ref h), (1, .int (nI t)), (2, .int (nI y)), (3, .long (nSa (σ y) t)), (6, .int (nI i))]) (by decide) rfl ?_
          refine gj_iincN (pc := 69) cx d_E_takers_69 (k := 5) (d := 1) (lo' := [(6, .int (nI (i + 1))), (5, .int (nI (msk (ePd σ t y) i + 2 ^ i))), (0, .ref h), (1, .int (nI t)), (2, .int (nI y)), (3, .long (nSa (σ y) t))]) rfl (by decide) (by decide) rfl ?_
          refine gj_goto (pc := 72) cx d_E_takers_72 (tgt := 35) rfl ?_
          refine gj_pick (lo' := [(0, .ref h), (1, .int (nI t)), (2, .int (nI y)), (3, .long (nSa (σ y) t)), (5, .int (nI (msk (ePd σ t y) i + 2 ^ i))), (6, .int (nI (i + 1)))]) [2, 3, 4, 5, 1, 0] rfl ?_
          exact gj_eq rfl (by rw [msk_t (by simp [ePd, hyc, hb1, hb4])]) rfl (rfl) (ihi (by omega))
    · refine gj_iconst (pc := 27) cx d_E_takers_27 (v := nI 0) (by decide) ?_
      exact gj_iretR (pc := 28) cx hr hlk d_E_takers_28 (by rw [eTak_0b (by simpa [eCor_N hn hy] using hb2)])

set_option maxRecDepth 100000 in
set_option maxHeartbeats 4000000 in
theorem c_E_firstPending (l : Launch) (D : va_G) (cI cJ cO : ClassId) (h hN : Nat) (ad : Nat → Nat → Nat) (n f fa : Nat) (σ : Nat → NS)  (hn : n ≤ 7) (hs : ∀ x, x < n → nInv n (σ x)) : MRi l y_E_firstPending (wsM y_E_firstPending b_E_firstPending 5 (some .int)) { frames := 4, cells := 0, slots := 0, locals := 99 } D vwK (tyo cI cJ cO) (oW cI cJ cO h hN ad n f fa σ) [.ref h] (if eFst n σ = 6909 then -1 else nI (eFst n σ)) := by
  refine gj_enterR (own := R_E) (by decide) rfl (Nat.le_of_ble_eq_true rfl) rfl rfl (fun p e s m below meth c cx hr hlk hK => ?_)
  have hKn : va_K D vwK (tyl cI cJ) s := hK.sub [0, 1] rfl
  refine gj_iconst (pc := 0) cx d_E_firstPending_0 (v := nI 0) (by decide) ?_
  refine gj_istore_n (pc := 1) cx d_E_firstPending_1 rfl (lo' := [(1, .int (nI 0)), (0, .ref h)]) (by decide) rfl ?_
  refine gj_pick (lo' := [(0, .ref h), (1, .int (nI 0))]) [1, 0] rfl ?_
  refine gj_forH (G := Gj p l e _ s m _ below meth c _ _ _ _ _) (fun t => ∀ k, k < t * 49 → ePm n σ k = false) 141 2 (fun t => [(0, .ref h), (1, .int (nI t))]) (fun t => oW cI cJ cO h hN ad n f fa σ) (fun t ht iht qt => ?_) 0 (by omega) (fun k hk => by omega)
  refine gj_iload_n (pc := 2) cx d_E_firstPending_2 rfl (x := nI t) rfl ?_
  refine gj_sipush (pc := 3) cx d_E_firstPending_3 (v := nI 141) (by decide) ?_
  refine gj_icmp_geN (pc := 6) cx d_E_firstPending_6 (tgt := 83) rfl (by omega) (by omega) (fun hb1 => ?_) (fun hb1 => ?_)
  · refine gj_iconst (pc := 83) cx d_E_firstPending_83 (v := (-1)) (by decide) ?_
    exact gj_iretR (pc := 84) cx hr hlk d_E_firstPending_84 (by have e : eFst n σ = 6909 := fstB_none (fun k hk => qt k (by omega)); rw [if_pos e])
  · refine gj_iconst (pc := 9) cx d_E_firstPending_9 (v := nI 0) (by decide) ?_
    refine gj_istore_n (pc := 10) cx d_E_firstPending_10 rfl (lo' := [(2, .int (nI 0)), (0, .ref h), (1, .int (nI t))]) (by decide) rfl ?_
    refine gj_pick (lo' := [(0, .ref h), (1, .int (nI t)), (2, .int (nI 0))]) [1, 2, 0] rfl ?_
    refine gj_forH (G := Gj p l e _ s m _ below meth c _ _ _ _ _) (fun y => ∀ k, k < (t * 7 + y) * 7 → ePm n σ k = false) n 11 (fun y => [(0, .ref h), (1, .int (nI t)), (2, .int (nI y))]) (fun y => oW cI cJ cO h hN ad n f fa σ) (fun y hy ihy qy => ?_) 0 (by omega) (fun k hk => qt k (by omega))
    refine gj_iload_n (pc := 11) cx d_E_firstPending_11 rfl (x := nI y) rfl ?_
    refine gj_aload_n (pc := 12) cx d_E_firstPending_12 rfl (x := h) rfl ?_
    refine gj_get (pc := 13) (ci := 1) (C := R_E) (T := T_E) (N := 4) (v := .int (nI n)) cx hK gj_rP in_E d_E_firstPending_13 0 rfl rfl 0 (by decide) (in_WT wm_59) rfl ?_
    refine gj_icmp_geN (pc := 16) cx d_E_firstPending_16 (tgt := 77) rfl (by omega) (by omega) (fun hb2 => ?_) (fun hb2 => ?_)
    · refine gj_iincN (pc := 77) cx d_E_firstPending_77 (k := 1) (d := 1) (lo' := [(1, .int (nI (t + 1))), (0, .ref h), (2, .int (nI y))]) rfl (by decide) (by decide) rfl ?_
      refine gj_goto (pc := 80) cx d_E_firstPending_80 (tgt := 2) rfl ?_
      refine gj_pick (lo' := [(0, .ref h), (1, .int (nI (t + 1)))]) [1, 0] rfl ?_
      exact gj_eq rfl (rfl) rfl (rfl) (iht (by omega) (ePm_y ((show y = n from (by omega)) ▸ qy)))
    · refine gj_aload_n (pc := 19) cx d_E_firstPending_19 rfl (x := h) rfl ?_
      refine gj_iload_n (pc := 20) cx d_E_firstPending_20 rfl (x := nI t) rfl ?_
      refine gj_iload_n (pc := 21) cx d_E_firstPending_21 rfl (x := nI y) rfl ?_
      refine gj_callVRi (pc := 22) (As := [.int (nI t), .int (nI y)]) (rest := []) (v := nI (eTak n σ t y)) cx hK (c_E_takers l D cI cJ cO h hN ad n f fa σ t y (by omega) (hs) (by omega) (by omega)) (cwV 2 cx.2.2.2.2 (good_V wm_229 wm_227 wm_228 wm_553 wm_1) rfl rfl rfl (by decide +kernel) ⟨Nat.le_of_ble_eq_true rfl, Nat.le_of_ble_eq_true rfl⟩) gj_rP 0 1 rfl rfl rfl rfl rfl (Nat.le_of_ble_eq_true rfl) d_E_firstPending_22 ⟨Nat.zero_le _, Nat.zero_le _⟩ ?_
      refine gj_istore_n (pc := 25) cx d_E_firstPending_25 rfl (lo' := [(3, .int (nI (eTak n σ t y))), (0, .ref h), (1, .int (nI t)), (2, .int (nI y))]) (by decide) rfl ?_
      have htk : eTak n σ t y < 128 := msk_128 _ hn
      refine gj_iconst (pc := 26) cx d_E_firstPending_26 (v := nI 0) (by decide) ?_
      refine gj_istore (pc := 27) cx d_E_firstPending_27 (lo' := [(4, .int (nI 0)), (3, .int (nI (eTak n σ t y))), (0, .ref h), (1, .int (nI t)), (2, .int (nI y))]) (by decide) rfl ?_
      refine gj_pick (lo' := [(0, .ref h), (1, .int (nI t)), (2, .int (nI y)), (3, .int (nI (eTak n σ t y))), (4, .int (nI 0))]) [2, 3, 4, 1, 0] rfl ?_
      refine gj_forH (G := Gj p l e _ s m _ below meth c _ _ _ _ _) (fun x => ∀ k, k < (t * 7 + y) * 7 + x → ePm n σ k = false) n 29 (fun x => [(0, .ref h), (1, .int (nI t)), (2, .int (nI y)), (3, .int (nI (eTak n σ t y))), (4, .int (nI x))]) (fun x => oW cI cJ cO h hN ad n f fa σ) (fun x hx ihx qx => ?_) 0 (by omega) (fun k hk => qy k (by omega))
      refine gj_iload_n (pc := 29) cx d_E_firstPending_29 rfl (x := nI (eTak n σ t y)) rfl ?_
      refine gj_if_eqN (pc := 30) cx d_E_firstPending_30 (tgt := 71) rfl (by omega) (fun hb3 => ?_) (fun hb3 => ?_)
      · refine gj_iincN (pc := 71) cx d_E_firstPending_71 (k := 2) (d := 1) (lo' := [(2, .int (nI (y + 1))), (0, .ref h), (1, .int (nI t)), (3, .int (nI (eTak n σ t y))), (4, .int (nI x))]) rfl (by decide) (by decide) rfl ?_
        refine gj_goto (pc := 74) cx d_E_firstPending_74 (tgt := 11) rfl ?_
        refine gj_pick (lo' := [(0, .ref h), (1, .int (nI t)), (2, .int (nI (y + 1)))]) [1, 2, 0] rfl ?_
        exact gj_eq rfl (rfl) rfl (rfl) (ihy (by omega) (ePm_0 hn (by omega) qx hb3))
      · refine gj_iload (pc := 33) cx d_E_firstPending_33 (x := nI x) rfl ?_
        refine gj_aload_n (pc := 35) cx d_E_firstPending_35 rfl (x := h) rfl ?_
        refine gj_get (pc := 36) (ci := 1) (C := R_E) (T := T_E) (N := 4) (v := .int (nI n)) cx hK gj_rP in_E d_E_firstPending_36 0 rfl rfl 0 (by decide) (in_WT wm_59) rfl ?_
        refine gj_icmp_geN (pc := 39) cx d_E_firstPending_39 (tgt := 71) rfl (by omega) (by omega) (fun hb4 => ?_) (fun hb4 => ?_)
        · refine gj_iincN (pc := 71) cx d_E_firstPending_71 (k := 2) (d := 1) (lo' := [(2, .int (nI (y + 1))), (0, .ref h), (1, .int (nI t)), (3, .int (nI (eTak n σ t y))), (4, .int (nI x))]) rfl (by decide) (by decide) rfl ?_
          refine gj_goto (pc := 74) cx d_E_firstPending_74 (tgt := 11) rfl ?_
          refine gj_pick (lo' := [(0, .ref h), (1, .int (nI t)), (2, .int (nI (y + 1)))]) [1, 2, 0] rfl ?_
          exact gj_eq rfl (rfl) rfl (rfl) (ihy (by omega) (ePm_x ((show x = n from (by omega)) ▸ qx)))
        · refine gj_iload_n (pc := 42) cx d_E_firstPending_42 rfl (x := nI (eTak n σ t y)) rfl ?_
          refine gj_iload (pc := 43) cx d_E_firstPending_43 (x := nI x) rfl ?_
          refine gj_ishrN (pc := 45) cx d_E_firstPending_45 (by omega) (by omega) ?_
          refine gj_iconst (pc := 46) cx d_E_firstPending_46 (v := nI 1) (by decide) ?_
          refine gj_iand (pc := 47) cx d_E_firstPending_47 ?_
          refine gj_toi (y := nI (eTak n σ t y / 2 ^ x % 2)) (and_1 (Nat.lt_of_le_of_lt (Nat.div_le_self _ _) (by omega))) ?_
          refine gj_iconst (pc := 48) cx d_E_firstPending_48 (v := nI 1) (by decide) ?_
          refine gj_icmp_neN (pc := 49) cx d_E_firstPending_49 (tgt := 65) rfl (by omega) (by omega) (fun hb5 => ?_) (fun hb5 => ?_)
          · refine gj_iincN (pc := 65) cx d_E_firstPending_65 (k := 4) (d := 1) (lo' := [(4, .int (nI (x + 1))), (0, .ref h), (1, .int (nI t)), (2, .int (nI y)), (3, .int (nI (eTak n σ t y)))]) rfl (by decide) (by decide) rfl ?_
            refine gj_goto (pc := 68) cx d_E_firstPending_68 (tgt := 29) rfl ?_
            refine gj_pick (lo' := [(0, .ref h), (1, .int (nI t)), (2, .int (nI y)), (3, .int (nI (eTak n σ t y))), (4, .int (nI (x + 1)))]) [1, 2, 3, 4, 0] rfl ?_
            exact gj_eq rfl (rfl) rfl (rfl) (ihx (by omega) (ePm_s (by omega) (by omega) hn qx hb5))
          · refine gj_iload_n (pc := 52) cx d_E_firstPending_52 rfl (x := nI t) rfl ?_
            refine gj_bipush (pc := 53) cx d_E_firstPending_53 (v := nI 7) (by decide) ?_
            refine gj_imulN (pc := 55) cx d_E_firstPending_55 ?_
            refine gj_iload_n (pc := 56) cx d_E_firstPending_56 rfl (x := nI y) rfl ?_
            refine gj_iaddN (pc := 57) cx d_E_firstPending_57 ?_
            refine gj_bipush (pc := 58) cx d_E_firstPending_58 (v := nI 7) (by decide) ?_
            refine gj_imulN (pc := 60) cx d_E_firstPending_60 ?_
            refine gj_iload (pc := 61) cx d_E_firstPending_61 (x := nI x) rfl ?_
            refine gj_iaddN (pc := 63) cx d_E_firstPending_63 ?_
            exact gj_iretR (pc := 64) cx hr hlk d_E_firstPending_64 (by have e := eFst_at (n := n) (σ := σ) (t := t) (y := y) (x := x) (by omega) (by omega) (by omega) hn qx hb5; rw [if_neg (by omega), e])

set_option maxRecDepth 100000 in
set_option maxHeartbeats 4000000 in
theorem c_E_pending (l : Launch) (D : va_G) (cI cJ cO : ClassId) (h hN : Nat) (ad : Nat → Nat → Nat) (n f fa : Nat) (σ : Nat → NS)  (hn : n ≤ 7) (hs : ∀ x, x < n → nInv n (σ x)) : MRi l y_E_pending (wsM y_E_pending b_E_pending 4 (some .int)) { frames := 4, cells := 0, slots := 0, locals := 99 } D vwK (tyo cI cJ cO) (oW cI cJ cO h hN ad n f fa σ) [.ref h] (nI (ePend n σ)) := by
  refine gj_enterR (own := R_E) (by decide) rfl (Nat.le_of_ble_eq_true rfl) rfl rfl (fun p e s m below meth c cx hr hlk hK => ?_)
  have hKn : va_K D vwK (tyl cI cJ) s := hK.sub [0, 1] rfl
  refine gj_iconst (pc := 0) cx d_E_pending_0 (v := nI 0) (by decide) ?_
  refine gj_istore_n (pc := 1) cx d_E_pending_1 rfl (lo' := [(1, .int (nI 0)), (0, .ref h)]) (by decide) rfl ?_
  refine gj_iconst (pc := 2) cx d_E_pending_2 (v := nI 0) (by decide) ?_
  refine gj_istore_n (pc := 3) cx d_E_pending_3 rfl (lo' := [(2, .int (nI 0)), (1, .int (nI 0)), (0, .ref h)]) (by decide) rfl ?_
  refine gj_pick (lo' := [(0, .ref h), (1, .int (nI 0)), (2, .int (nI 0))]) [2, 1, 0] rfl ?_
  refine gj_forG (G := Gj p l e _ s m _ below meth c _ _ _ _ _) 141 4 (fun t => [(0, .ref h), (1, .int (nI (sumN (fun t => sumN (fun y => cntB (ePd σ t y) n) n) t))), (2, .int (nI t))]) (fun t => oW cI cJ cO h hN ad n f fa σ) (fun t ht iht => ?_) 0 (by omega)
  refine gj_iload_n (pc := 4) cx d_E_pending_4 rfl (x := nI t) rfl ?_
  refine gj_sipush (pc := 5) cx d_E_pending_5 (v := nI 141) (by decide) ?_
  refine gj_icmp_geN (pc := 8) cx d_E_pending_8 (tgt := 45) rfl (by omega) (by omega) (fun hb1 => ?_) (fun hb1 => ?_)
  · refine gj_iload_n (pc := 45) cx d_E_pending_45 rfl (x := nI (sumN (fun t => sumN (fun y => cntB (ePd σ t y) n) n) t)) rfl ?_
    exact gj_iretR (pc := 46) cx hr hlk d_E_pending_46 (by rw [show t = 141 from (by omega)]; rfl)
  · refine gj_iconst (pc := 11) cx d_E_pending_11 (v := nI 0) (by decide) ?_
    refine gj_istore_n (pc := 12) cx d_E_pending_12 rfl (lo' := [(3, .int (nI 0)), (0, .ref h), (1, .int (nI (sumN (fun t => sumN (fun y => cntB (ePd σ t y) n) n) t))), (2, .int (nI t))]) (by decide) rfl ?_
    refine gj_pick (lo' := [(0, .ref h), (1, .int (nI (sumN (fun t => sumN (fun y => cntB (ePd σ t y) n) n) t))), (2, .int (nI t)), (3, .int (nI 0))]) [1, 2, 3, 0] rfl ?_
    refine gj_forG (G := Gj p l e _ s m _ below meth c _ _ _ _ _) n 13 (fun y => [(0, .ref h), (1, .int (nI (sumN (fun t => sumN (fun y => cntB (ePd σ t y) n) n) t + sumN (fun y => cntB (ePd σ t y) n) y))), (2, .int (nI t)), (3, .int (nI y))]) (fun y => oW cI cJ cO h hN ad n f fa σ) (fun y hy ihy => ?_) 0 (by omega)
    refine gj_iload_n (pc := 13) cx d_E_pending_13 rfl (x := nI y) rfl ?_
    refine gj_aload_n (pc := 14) cx d_E_pending_14 rfl (x := h) rfl ?_
    refine gj_get (pc := 15) (ci := 1) (C := R_E) (T := T_E) (N := 4) (v := .int (nI n)) cx hK gj_rP in_E d_E_pending_15 0 rfl rfl 0 (by decide) (in_WT wm_59) rfl ?_
    refine gj_icmp_geN (pc := 18) cx d_E_pending_18 (tgt := 39) rfl (by omega) (by omega) (fun hb2 => ?_) (fun hb2 => ?_)
    · refine gj_iincN (pc := 39) cx d_E_pending_39 (k := 2) (d := 1) (lo' := [(2, .int (nI (t + 1))), (0, .ref h), (1, .int (nI (sumN (fun t => sumN (fun y => cntB (ePd σ t y) n) n) t + sumN (fun y => cntB (ePd σ t y) n) y))), (3, .int (nI y))]) rfl (by decide) (by decide) rfl ?_
      refine gj_goto (pc := 42) cx d_E_pending_42 (tgt := 4) rfl ?_
      refine gj_pick (lo' := [(0, .ref h), (1, .int (nI (sumN (fun t => sumN (fun y => cntB (ePd σ t y) n) n) t + sumN (fun y => cntB (ePd σ t y) n) y))), (2, .int (nI (t + 1)))]) [1, 2, 0] rfl ?_
      exact gj_eq rfl (by simp [sumN, show y = n from (by omega)]) rfl (rfl) (iht (by omega))
    · refine gj_iload_n (pc := 21) cx d_E_pending_21 rfl (x := nI (sumN (fun t => sumN (fun y => cntB (ePd σ t y) n) n) t + sumN (fun y => cntB (ePd σ t y) n) y)) rfl ?_
      refine gj_aload_n (pc := 22) cx d_E_pending_22 rfl (x := h) rfl ?_
      refine gj_iload_n (pc := 23) cx d_E_pending_23 rfl (x := nI t) rfl ?_
      refine gj_iload_n (pc := 24) cx d_E_pending_24 rfl (x := nI y) rfl ?_
      refine gj_callVRi (pc := 25) (As := [.int (nI t), .int (nI y)]) (rest := [.int (nI (sumN (fun t => sumN (fun y => cntB (ePd σ t y) n) n) t + sumN (fun y => cntB (ePd σ t y) n) y))]) (v := nI (eTak n σ t y)) cx hK (c_E_takers l D cI cJ cO h hN ad n f fa σ t y (by omega) (hs) (by omega) (by omega)) (cwV 2 cx.2.2.2.2 (good_V wm_229 wm_227 wm_228 wm_553 wm_1) rfl rfl rfl (by decide +kernel) ⟨Nat.le_of_ble_eq_true rfl, Nat.le_of_ble_eq_true rfl⟩) gj_rP 0 1 rfl rfl rfl rfl rfl (Nat.le_of_ble_eq_true rfl) d_E_pending_25 ⟨Nat.zero_le _, Nat.zero_le _⟩ ?_
      refine gj_callSRi (pc := 28) (As := [.int (nI (eTak n σ t y))]) (rest := [.int (nI (sumN (fun t => sumN (fun y => cntB (ePd σ t y) n) n) t + sumN (fun y => cntB (ePd σ t y) n) y))]) (v := bcI (nI (eTak n σ t y))) cx hK (c_JI_bitCount l D (tyo cI cJ cO) (nI (eTak n σ t y)) ) (va_cwS 1 cx.2.2.2.2 (good_S wm_240 wm_238 wm_239 wm_8) rfl rfl rfl (by decide +kernel) ⟨Nat.le_of_ble_eq_true rfl, Nat.le_of_ble_eq_true rfl⟩) (fun _ _ _ => gj_P0) rfl rfl (Nat.le_of_ble_eq_true rfl) d_E_pending_28 ⟨Nat.zero_le _, Nat.zero_le _⟩ ?_
      refine gj_toi (y := nI (cntB (ePd σ t y) n)) (bc_tak hn) ?_
      refine gj_iaddN (pc := 31) cx d_E_pending_31 ?_
      refine gj_istore_n (pc := 32) cx d_E_pending_32 rfl (lo' := [(1, .int (nI ((sumN (fun t => sumN (fun y => cntB (ePd σ t y) n) n) t + sumN (fun y => cntB (ePd σ t y) n) y) + (cntB (ePd σ t y) n)))), (0, .ref h), (2, .int (nI t)), (3, .int (nI y))]) (by decide) rfl ?_
      refine gj_iincN (pc := 33) cx d_E_pending_33 (k := 3) (d := 1) (lo' := [(3, .int (nI (y + 1))), (1, .int (nI ((sumN (fun t => sumN (fun y => cntB (ePd σ t y) n) n) t + sumN (fun y => cntB (ePd σ t y) n) y) + (cntB (ePd σ t y) n)))), (0, .ref h), (2, .int (nI t))]) rfl (by decide) (by decide) rfl ?_
      refine gj_goto (pc := 36) cx d_E_pending_36 (tgt := 13) rfl ?_
      refine gj_pick (lo' := [(0, .ref h), (1, .int (nI ((sumN (fun t => sumN (fun y => cntB (ePd σ t y) n) n) t + sumN (fun y => cntB (ePd σ t y) n) y) + (cntB (ePd σ t y) n)))), (2, .int (nI t)), (3, .int (nI (y + 1)))]) [2, 1, 3, 0] rfl ?_
      exact gj_eq rfl (by simp [sumN, Nat.add_assoc]) rfl (rfl) (ihy (by omega))
