section
/-! Names of classes, fields, methods; WT: the words of the tables that our methods lean on; laid by wip/gen/names.py -/
abbrev R_N : String := "EchoPayments$Node"
abbrev R_P : String := "EchoPayments$Paper"
abbrev R_T : String := "EchoPayments$Topic"
abbrev R_E : String := "EchoPayments"
abbrev R_M : String := "EchoPaymentsModel"
abbrev R_L : String := "EchoPaymentsLaw"
def T_N : u_T := fun k => match k with
  | 0 => ("EchoPayments$Node", "me", "I", true)
  | 1 => ("EchoPayments$Node", "size", "I", true)
  | 2 => ("EchoPayments$Node", "mostFaulty", "I", true)
  | 3 => ("EchoPayments$Node", "condition", "I", false)
  | 4 => ("EchoPayments$Node", "fuseLeft", "I", false)
  | 5 => ("EchoPayments$Node", "submissions", "I", false)
  | 6 => ("EchoPayments$Node", "said", "[J", true)
  | 7 => ("EchoPayments$Node", "appliedCount", "[I", true)
  | 8 => ("EchoPayments$Node", "freedCount", "[I", true)
  | 9 => ("EchoPayments$Node", "balances", "[J", true)
  | 10 => ("EchoPayments$Node", "told", "[J", true)
  | _ => ("EchoPayments$Node", "acceptedPapers", "[J", true)
def ty_N : Nat → FieldType := fun k => match k with
  | 0 => .int
  | 1 => .int
  | 2 => .int
  | 3 => .int
  | 4 => .int
  | 5 => .int
  | 6 => .array .long
  | 7 => .array .int
  | 8 => .array .int
  | 9 => .array .long
  | 10 => .array .long
  | _ => .array .long
theorem nm_N : ∀ a, a < 12 → ∀ b, b < 12 → a ≠ b → (T_N a).2.1 ≠ (T_N b).2.1 := by decide +kernel
theorem ty_N_ok : ∀ k, k < 12 → parseFieldDescriptor (T_N k).2.2.1 = some (ty_N k) := by decide +kernel
def T_E : u_T := fun k => match k with
  | 0 => ("EchoPayments", "size", "I", true)
  | 1 => ("EchoPayments", "mostFaulty", "I", true)
  | 2 => ("EchoPayments", "nodes", "[LEchoPayments$Node;", true)
  | _ => ("EchoPayments", "faultyNodes", "I", false)
def ty_E : Nat → FieldType := fun k => match k with
  | 0 => .int
  | 1 => .int
  | 2 => .array (.object "EchoPayments$Node")
  | _ => .int
theorem nm_E : ∀ a, a < 4 → ∀ b, b < 4 → a ≠ b → (T_E a).2.1 ≠ (T_E b).2.1 := by decide +kernel
theorem ty_E_ok : ∀ k, k < 4 → parseFieldDescriptor (T_E k).2.2.1 = some (ty_E k) := by decide +kernel
def T_M : u_T := fun k => match k with
  | 0 => ("EchoPaymentsModel", "n", "I", true)
  | 1 => ("EchoPaymentsModel", "f", "I", true)
  | 2 => ("EchoPaymentsModel", "first", "J", true)
  | 3 => ("EchoPaymentsModel", "status", "[I", true)
  | 4 => ("EchoPaymentsModel", "fuses", "[I", true)
  | 5 => ("EchoPaymentsModel", "submitted", "[I", true)
  | 6 => ("EchoPaymentsModel", "own", "[J", true)
  | 7 => ("EchoPaymentsModel", "echo", "[J", true)
  | 8 => ("EchoPaymentsModel", "ready", "[J", true)
  | 9 => ("EchoPaymentsModel", "applied", "[J", true)
  | 10 => ("EchoPaymentsModel", "freed", "[I", true)
  | 11 => ("EchoPaymentsModel", "marks", "[I", true)
  | 12 => ("EchoPaymentsModel", "heard", "[J", true)
  | 13 => ("EchoPaymentsModel", "heardMark", "[I", true)
  | _ => ("EchoPaymentsModel", "accepted", "[J", true)
def ty_M : Nat → FieldType := fun k => match k with
  | 0 => .int
  | 1 => .int
  | 2 => .long
  | 3 => .array .int
  | 4 => .array .int
  | 5 => .array .int
  | 6 => .array .long
  | 7 => .array .long
  | 8 => .array .long
  | 9 => .array .long
  | 10 => .array .int
  | 11 => .array .int
  | 12 => .array .long
  | 13 => .array .int
  | _ => .array .long
theorem nm_M : ∀ a, a < 15 → ∀ b, b < 15 → a ≠ b → (T_M a).2.1 ≠ (T_M b).2.1 := by decide +kernel
theorem ty_M_ok : ∀ k, k < 15 → parseFieldDescriptor (T_M k).2.2.1 = some (ty_M k) := by decide +kernel
abbrev vwK : List vw_C := [(R_N, T_N, 12), (R_E, T_E, 4), (R_M, T_M, 15)]
abbrev b_N_init : ByteArray := prog_2_method_1_code
abbrev y_N_init : MethodName := ⟨"EchoPayments$Node", "<init>", "(IIIJ)V"⟩
abbrev b_N_condition : ByteArray := prog_2_method_2_code
abbrev y_N_condition : MethodName := ⟨"EchoPayments$Node", "condition", "()I"⟩
abbrev b_N_said : ByteArray := prog_2_method_3_code
abbrev y_N_said : MethodName := ⟨"EchoPayments$Node", "said", "(I)J"⟩
abbrev b_N_acceptedFor : ByteArray := prog_2_method_4_code
abbrev y_N_acceptedFor : MethodName := ⟨"EchoPayments$Node", "acceptedFor", "(I)J"⟩
abbrev b_N_appliedOf : ByteArray := prog_2_method_5_code
abbrev y_N_appliedOf : MethodName := ⟨"EchoPayments$Node", "appliedOf", "(I)I"⟩
abbrev b_N_balanceOf : ByteArray := prog_2_method_6_code
abbrev y_N_balanceOf : MethodName := ⟨"EchoPayments$Node", "balanceOf", "(I)J"⟩
abbrev b_N_freedOf : ByteArray := prog_2_method_7_code
abbrev y_N_freedOf : MethodName := ⟨"EchoPayments$Node", "freedOf", "(I)I"⟩
abbrev b_N_turnFaulty : ByteArray := prog_2_method_8_code
abbrev y_N_turnFaulty : MethodName := ⟨"EchoPayments$Node", "turnFaulty", "()V"⟩
abbrev b_N_comeUp : ByteArray := prog_2_method_9_code
abbrev y_N_comeUp : MethodName := ⟨"EchoPayments$Node", "comeUp", "()V"⟩
abbrev b_N_setFuse : ByteArray := prog_2_method_10_code
abbrev y_N_setFuse : MethodName := ⟨"EchoPayments$Node", "setFuse", "(I)V"⟩
abbrev b_N_goDown : ByteArray := prog_2_method_11_code
abbrev y_N_goDown : MethodName := ⟨"EchoPayments$Node", "goDown", "()V"⟩
abbrev b_N_writeSubmission : ByteArray := prog_2_method_12_code
abbrev y_N_writeSubmission : MethodName := ⟨"EchoPayments$Node", "writeSubmission", "(II)I"⟩
abbrev b_N_writeMark : ByteArray := prog_2_method_13_code
abbrev y_N_writeMark : MethodName := ⟨"EchoPayments$Node", "writeMark", "()I"⟩
abbrev b_N_receive : ByteArray := prog_2_method_14_code
abbrev y_N_receive : MethodName := ⟨"EchoPayments$Node", "receive", "(IIJ)I"⟩
abbrev b_N_wouldTake : ByteArray := prog_2_method_15_code
abbrev y_N_wouldTake : MethodName := ⟨"EchoPayments$Node", "wouldTake", "(IIJ)Z"⟩
abbrev b_N_objection : ByteArray := prog_2_method_16_code
abbrev y_N_objection : MethodName := ⟨"EchoPayments$Node", "objection", "(IIJ)I"⟩
abbrev b_N_countTellers : ByteArray := prog_2_method_17_code
abbrev y_N_countTellers : MethodName := ⟨"EchoPayments$Node", "countTellers", "(I)I"⟩
abbrev b_N_countKept : ByteArray := prog_2_method_18_code
abbrev y_N_countKept : MethodName := ⟨"EchoPayments$Node", "countKept", "()I"⟩
abbrev b_N_keeps : ByteArray := prog_2_method_19_code
abbrev y_N_keeps : MethodName := ⟨"EchoPayments$Node", "keeps", "(I)Z"⟩
abbrev b_N_isWellFormed : ByteArray := prog_2_method_20_code
abbrev y_N_isWellFormed : MethodName := ⟨"EchoPayments$Node", "isWellFormed", "(IJ)Z"⟩
abbrev b_N_take : ByteArray := prog_2_method_21_code
abbrev y_N_take : MethodName := ⟨"EchoPayments$Node", "take", "(IIJ)I"⟩
abbrev b_N_callsForReady : ByteArray := prog_2_method_22_code
abbrev y_N_callsForReady : MethodName := ⟨"EchoPayments$Node", "callsForReady", "(IIJ)Z"⟩
abbrev b_N_isAcceptable : ByteArray := prog_2_method_23_code
abbrev y_N_isAcceptable : MethodName := ⟨"EchoPayments$Node", "isAcceptable", "(IJ)Z"⟩
abbrev b_N_countTellersOf : ByteArray := prog_2_method_24_code
abbrev y_N_countTellersOf : MethodName := ⟨"EchoPayments$Node", "countTellersOf", "(IJ)I"⟩
abbrev b_N_applyWhatIsValid : ByteArray := prog_2_method_25_code
abbrev y_N_applyWhatIsValid : MethodName := ⟨"EchoPayments$Node", "applyWhatIsValid", "()I"⟩
abbrev b_N_leastPayer : ByteArray := prog_2_method_26_code
abbrev y_N_leastPayer : MethodName := ⟨"EchoPayments$Node", "leastPayer", "()I"⟩
abbrev b_N_isValid : ByteArray := prog_2_method_27_code
abbrev y_N_isValid : MethodName := ⟨"EchoPayments$Node", "isValid", "(IJ)Z"⟩
abbrev b_N_pay : ByteArray := prog_2_method_28_code
abbrev y_N_pay : MethodName := ⟨"EchoPayments$Node", "pay", "(IJ)V"⟩
abbrev b_N_freeWhatIsMarked : ByteArray := prog_2_method_29_code
abbrev y_N_freeWhatIsMarked : MethodName := ⟨"EchoPayments$Node", "freeWhatIsMarked", "()V"⟩
abbrev b_N_forget : ByteArray := prog_2_method_30_code
abbrev y_N_forget : MethodName := ⟨"EchoPayments$Node", "forget", "(I)V"⟩
abbrev b_N_spendable : ByteArray := prog_2_method_31_code
abbrev y_N_spendable : MethodName := ⟨"EchoPayments$Node", "spendable", "()J"⟩
abbrev b_N_needs : ByteArray := prog_2_method_32_code
abbrev y_N_needs : MethodName := ⟨"EchoPayments$Node", "needs", "()J"⟩
abbrev b_N_lastPaymentBy : ByteArray := prog_2_method_33_code
abbrev y_N_lastPaymentBy : MethodName := ⟨"EchoPayments$Node", "lastPaymentBy", "(I)I"⟩
abbrev b_N_write : ByteArray := prog_2_method_34_code
abbrev y_N_write : MethodName := ⟨"EchoPayments$Node", "write", "(IJ)Z"⟩
abbrev b_P_payee : ByteArray := prog_3_method_2_code
abbrev y_P_payee : MethodName := ⟨"EchoPayments$Paper", "payee", "(J)I"⟩
abbrev b_P_amount : ByteArray := prog_3_method_3_code
abbrev y_P_amount : MethodName := ⟨"EchoPayments$Paper", "amount", "(J)I"⟩
abbrev b_P_need : ByteArray := prog_3_method_4_code
abbrev y_P_need : MethodName := ⟨"EchoPayments$Paper", "need", "(JI)I"⟩
abbrev b_P_make : ByteArray := prog_3_method_5_code
abbrev y_P_make : MethodName := ⟨"EchoPayments$Paper", "make", "(IIJ)J"⟩
abbrev b_P_digit : ByteArray := prog_3_method_6_code
abbrev y_P_digit : MethodName := ⟨"EchoPayments$Paper", "digit", "(JI)I"⟩
abbrev b_P_isWellFormed : ByteArray := prog_3_method_7_code
abbrev y_P_isWellFormed : MethodName := ⟨"EchoPayments$Paper", "isWellFormed", "(JII)Z"⟩
abbrev b_P_isMark : ByteArray := prog_3_method_8_code
abbrev y_P_isMark : MethodName := ⟨"EchoPayments$Paper", "isMark", "(JI)Z"⟩
abbrev b_T_of : ByteArray := prog_4_method_2_code
abbrev y_T_of : MethodName := ⟨"EchoPayments$Topic", "of", "(III)I"⟩
abbrev b_T_at : ByteArray := prog_4_method_3_code
abbrev y_T_at : MethodName := ⟨"EchoPayments$Topic", "at", "(II)I"⟩
abbrev b_T_kind : ByteArray := prog_4_method_4_code
abbrev y_T_kind : MethodName := ⟨"EchoPayments$Topic", "kind", "(I)I"⟩
abbrev b_T_instance : ByteArray := prog_4_method_5_code
abbrev y_T_instance : MethodName := ⟨"EchoPayments$Topic", "instance", "(I)I"⟩
abbrev b_T_account : ByteArray := prog_4_method_6_code
abbrev y_T_account : MethodName := ⟨"EchoPayments$Topic", "account", "(I)I"⟩
abbrev b_T_seq : ByteArray := prog_4_method_7_code
abbrev y_T_seq : MethodName := ⟨"EchoPayments$Topic", "seq", "(I)I"⟩
abbrev b_E_init : ByteArray := prog_1_method_1_code
abbrev y_E_init : MethodName := ⟨"EchoPayments", "<init>", "(II)V"⟩
abbrev b_E_submit : ByteArray := prog_1_method_2_code
abbrev y_E_submit : MethodName := ⟨"EchoPayments", "submit", "(III)I"⟩
abbrev b_E_corrupt : ByteArray := prog_1_method_3_code
abbrev y_E_corrupt : MethodName := ⟨"EchoPayments", "corrupt", "(I)Z"⟩
abbrev b_E_forge : ByteArray := prog_1_method_4_code
abbrev y_E_forge : MethodName := ⟨"EchoPayments", "forge", "(IIIJ)I"⟩
abbrev b_E_carry : ByteArray := prog_1_method_5_code
abbrev y_E_carry : MethodName := ⟨"EchoPayments", "carry", "(IIIII)I"⟩
abbrev b_E_pump : ByteArray := prog_1_method_6_code
abbrev y_E_pump : MethodName := ⟨"EchoPayments", "pump", "(I)I"⟩
abbrev b_E_pending : ByteArray := prog_1_method_7_code
abbrev y_E_pending : MethodName := ⟨"EchoPayments", "pending", "()I"⟩
abbrev b_E_crash : ByteArray := prog_1_method_8_code
abbrev y_E_crash : MethodName := ⟨"EchoPayments", "crash", "(I)Z"⟩
abbrev b_E_restart : ByteArray := prog_1_method_9_code
abbrev y_E_restart : MethodName := ⟨"EchoPayments", "restart", "(I)Z"⟩
abbrev b_E_fuse : ByteArray := prog_1_method_10_code
abbrev y_E_fuse : MethodName := ⟨"EchoPayments", "fuse", "(II)Z"⟩
abbrev b_E_mark : ByteArray := prog_1_method_11_code
abbrev y_E_mark : MethodName := ⟨"EchoPayments", "mark", "(I)I"⟩
abbrev b_E_sent : ByteArray := prog_1_method_12_code
abbrev y_E_sent : MethodName := ⟨"EchoPayments", "sent", "(IIII)J"⟩
abbrev b_E_heard : ByteArray := prog_1_method_13_code
abbrev y_E_heard : MethodName := ⟨"EchoPayments", "heard", "(IIII)I"⟩
abbrev b_E_accepted : ByteArray := prog_1_method_14_code
abbrev y_E_accepted : MethodName := ⟨"EchoPayments", "accepted", "(III)J"⟩
abbrev b_E_applied : ByteArray := prog_1_method_15_code
abbrev y_E_applied : MethodName := ⟨"EchoPayments", "applied", "(II)I"⟩
abbrev b_E_balance : ByteArray := prog_1_method_16_code
abbrev y_E_balance : MethodName := ⟨"EchoPayments", "balance", "(II)J"⟩
abbrev b_E_freed : ByteArray := prog_1_method_17_code
abbrev y_E_freed : MethodName := ⟨"EchoPayments", "freed", "(II)I"⟩
abbrev b_E_kept : ByteArray := prog_1_method_18_code
abbrev y_E_kept : MethodName := ⟨"EchoPayments", "kept", "(I)I"⟩
abbrev b_E_state : ByteArray := prog_1_method_19_code
abbrev y_E_state : MethodName := ⟨"EchoPayments", "state", "(I)I"⟩
abbrev b_E_isNode : ByteArray := prog_1_method_20_code
abbrev y_E_isNode : MethodName := ⟨"EchoPayments", "isNode", "(I)Z"⟩
abbrev b_E_isCorrect : ByteArray := prog_1_method_21_code
abbrev y_E_isCorrect : MethodName := ⟨"EchoPayments", "isCorrect", "(I)Z"⟩
abbrev b_E_isUp : ByteArray := prog_1_method_22_code
abbrev y_E_isUp : MethodName := ⟨"EchoPayments", "isUp", "(I)Z"⟩
abbrev b_E_topicOf : ByteArray := prog_1_method_23_code
abbrev y_E_topicOf : MethodName := ⟨"EchoPayments", "topicOf", "(III)I"⟩
abbrev b_E_firstPending : ByteArray := prog_1_method_24_code
abbrev y_E_firstPending : MethodName := ⟨"EchoPayments", "firstPending", "()I"⟩
abbrev b_E_takers : ByteArray := prog_1_method_25_code
abbrev y_E_takers : MethodName := ⟨"EchoPayments", "takers", "(II)I"⟩
abbrev b_M_init : ByteArray := prog_6_method_1_code
abbrev y_M_init : MethodName := ⟨"EchoPaymentsModel", "<init>", "(II)V"⟩
abbrev b_M_at : ByteArray := prog_6_method_2_code
abbrev y_M_at : MethodName := ⟨"EchoPaymentsModel", "at", "(III)I"⟩
abbrev b_M_ear : ByteArray := prog_6_method_3_code
abbrev y_M_ear : MethodName := ⟨"EchoPaymentsModel", "ear", "(IIIII)I"⟩
abbrev b_M_correct : ByteArray := prog_6_method_4_code
abbrev y_M_correct : MethodName := ⟨"EchoPaymentsModel", "correct", "(I)Z"⟩
abbrev b_M_up : ByteArray := prog_6_method_5_code
abbrev y_M_up : MethodName := ⟨"EchoPaymentsModel", "up", "(I)Z"⟩
abbrev b_M_isInstance : ByteArray := prog_6_method_6_code
abbrev y_M_isInstance : MethodName := ⟨"EchoPaymentsModel", "isInstance", "(II)Z"⟩
abbrev b_M_payeeOf : ByteArray := prog_6_method_7_code
abbrev y_M_payeeOf : MethodName := ⟨"EchoPaymentsModel", "payeeOf", "(J)I"⟩
abbrev b_M_amountOf : ByteArray := prog_6_method_8_code
abbrev y_M_amountOf : MethodName := ⟨"EchoPaymentsModel", "amountOf", "(J)I"⟩
abbrev b_M_needOf : ByteArray := prog_6_method_9_code
abbrev y_M_needOf : MethodName := ⟨"EchoPaymentsModel", "needOf", "(JI)I"⟩
abbrev b_M_wellFormed : ByteArray := prog_6_method_10_code
abbrev y_M_wellFormed : MethodName := ⟨"EchoPaymentsModel", "wellFormed", "(JII)Z"⟩
abbrev b_M_isMark : ByteArray := prog_6_method_11_code
abbrev y_M_isMark : MethodName := ⟨"EchoPaymentsModel", "isMark", "(J)Z"⟩
abbrev b_M_count : ByteArray := prog_6_method_12_code
abbrev y_M_count : MethodName := ⟨"EchoPaymentsModel", "count", "(II)I"⟩
abbrev b_M_worth : ByteArray := prog_6_method_13_code
abbrev y_M_worth : MethodName := ⟨"EchoPaymentsModel", "worth", "(II)J"⟩
abbrev b_M_valid : ByteArray := prog_6_method_14_code
abbrev y_M_valid : MethodName := ⟨"EchoPaymentsModel", "valid", "(IIJ)Z"⟩
abbrev b_M_fall : ByteArray := prog_6_method_15_code
abbrev y_M_fall : MethodName := ⟨"EchoPaymentsModel", "fall", "(I)V"⟩
abbrev b_M_burns : ByteArray := prog_6_method_16_code
abbrev y_M_burns : MethodName := ⟨"EchoPaymentsModel", "burns", "(I)Z"⟩
abbrev b_M_said : ByteArray := prog_6_method_17_code
abbrev y_M_said : MethodName := ⟨"EchoPaymentsModel", "said", "(IIII)J"⟩
abbrev b_M_objection : ByteArray := prog_6_method_18_code
abbrev y_M_objection : MethodName := ⟨"EchoPaymentsModel", "objection", "(IIIIIJ)I"⟩
abbrev b_M_many : ByteArray := prog_6_method_19_code
abbrev y_M_many : MethodName := ⟨"EchoPaymentsModel", "many", "(IIIIJ)I"⟩
abbrev b_M_receive : ByteArray := prog_6_method_20_code
abbrev y_M_receive : MethodName := ⟨"EchoPaymentsModel", "receive", "(IIIIIJ)I"⟩
abbrev b_M_apply : ByteArray := prog_6_method_21_code
abbrev y_M_apply : MethodName := ⟨"EchoPaymentsModel", "apply", "(I)I"⟩
abbrev b_M_release : ByteArray := prog_6_method_22_code
abbrev y_M_release : MethodName := ⟨"EchoPaymentsModel", "release", "(I)V"⟩
abbrev b_M_forget : ByteArray := prog_6_method_23_code
abbrev y_M_forget : MethodName := ⟨"EchoPaymentsModel", "forget", "(III)V"⟩
abbrev b_M_kindOf : ByteArray := prog_6_method_24_code
abbrev y_M_kindOf : MethodName := ⟨"EchoPaymentsModel", "kindOf", "(I)I"⟩
abbrev b_M_accountOf : ByteArray := prog_6_method_25_code
abbrev y_M_accountOf : MethodName := ⟨"EchoPaymentsModel", "accountOf", "(I)I"⟩
abbrev b_M_seqOf : ByteArray := prog_6_method_26_code
abbrev y_M_seqOf : MethodName := ⟨"EchoPaymentsModel", "seqOf", "(I)I"⟩
abbrev b_M_to : ByteArray := prog_6_method_27_code
abbrev y_M_to : MethodName := ⟨"EchoPaymentsModel", "to", "(IIZ)I"⟩
abbrev b_M_pending : ByteArray := prog_6_method_28_code
abbrev y_M_pending : MethodName := ⟨"EchoPaymentsModel", "pending", "()I"⟩
abbrev b_M_deliver : ByteArray := prog_6_method_29_code
abbrev y_M_deliver : MethodName := ⟨"EchoPaymentsModel", "deliver", "()Z"⟩
abbrev b_M_pump : ByteArray := prog_6_method_30_code
abbrev y_M_pump : MethodName := ⟨"EchoPaymentsModel", "pump", "(I)I"⟩
abbrev b_M_carry : ByteArray := prog_6_method_31_code
abbrev y_M_carry : MethodName := ⟨"EchoPaymentsModel", "carry", "(IIIII)I"⟩
abbrev b_M_forge : ByteArray := prog_6_method_32_code
abbrev y_M_forge : MethodName := ⟨"EchoPaymentsModel", "forge", "(IIIJ)I"⟩
abbrev b_M_submit : ByteArray := prog_6_method_33_code
abbrev y_M_submit : MethodName := ⟨"EchoPaymentsModel", "submit", "(III)I"⟩
abbrev b_M_corrupt : ByteArray := prog_6_method_34_code
abbrev y_M_corrupt : MethodName := ⟨"EchoPaymentsModel", "corrupt", "(I)Z"⟩
abbrev b_M_crash : ByteArray := prog_6_method_35_code
abbrev y_M_crash : MethodName := ⟨"EchoPaymentsModel", "crash", "(I)Z"⟩
abbrev b_M_restart : ByteArray := prog_6_method_36_code
abbrev y_M_restart : MethodName := ⟨"EchoPaymentsModel", "restart", "(I)Z"⟩
abbrev b_M_fuse : ByteArray := prog_6_method_37_code
abbrev y_M_fuse : MethodName := ⟨"EchoPaymentsModel", "fuse", "(II)Z"⟩
abbrev b_M_mark : ByteArray := prog_6_method_38_code
abbrev y_M_mark : MethodName := ⟨"EchoPaymentsModel", "mark", "(I)I"⟩
abbrev b_M_sent : ByteArray := prog_6_method_39_code
abbrev y_M_sent : MethodName := ⟨"EchoPaymentsModel", "sent", "(IIII)J"⟩
abbrev b_M_heard : ByteArray := prog_6_method_40_code
abbrev y_M_heard : MethodName := ⟨"EchoPaymentsModel", "heard", "(IIII)I"⟩
abbrev b_M_accepted : ByteArray := prog_6_method_41_code
abbrev y_M_accepted : MethodName := ⟨"EchoPaymentsModel", "accepted", "(III)J"⟩
abbrev b_M_applied : ByteArray := prog_6_method_42_code
abbrev y_M_applied : MethodName := ⟨"EchoPaymentsModel", "applied", "(II)I"⟩
abbrev b_M_balance : ByteArray := prog_6_method_43_code
abbrev y_M_balance : MethodName := ⟨"EchoPaymentsModel", "balance", "(II)J"⟩
abbrev b_M_freed : ByteArray := prog_6_method_44_code
abbrev y_M_freed : MethodName := ⟨"EchoPaymentsModel", "freed", "(II)I"⟩
abbrev b_M_kept : ByteArray := prog_6_method_45_code
abbrev y_M_kept : MethodName := ⟨"EchoPaymentsModel", "kept", "(I)I"⟩
abbrev b_M_state : ByteArray := prog_6_method_46_code
abbrev y_M_state : MethodName := ⟨"EchoPaymentsModel", "state", "(I)I"⟩
abbrev b_L_cell : ByteArray := method_2_code
abbrev y_L_cell : MethodName := ⟨"EchoPaymentsLaw", "cell", "([II)I"⟩
abbrev b_JA_fill : ByteArray := prog_9_method_101_code
abbrev y_JA_fill : MethodName := ⟨"java/util/Arrays", "fill", "([JJ)V"⟩
abbrev b_JI_bitCount : ByteArray := prog_7_method_49_code
abbrev y_JI_bitCount : MethodName := ⟨"java/lang/Integer", "bitCount", "(I)I"⟩
def WT_0 : List Cond := [Cond.initialized R_L, Cond.initialized R_E, Cond.initialized "java/lang/Math", Cond.initialized R_N, Cond.initialized "java/util/Arrays", Cond.initialized R_M, Cond.initialized R_T, Cond.initialized R_P, Cond.initialized "java/lang/Integer", Cond.classLink R_L 7 R_E, Cond.instantiable R_E 4, Cond.methodLink R_L 15 y_E_init, Cond.instanceMethod y_E_init, Cond.code y_E_init prog_1_method_1_code 6 none, Cond.methodLink R_E 3 objectInit, Cond.instanceMethod objectInit, Cond.code objectInit ⟨#[0xb1]⟩ 1 none, Cond.methodLink R_E 9 Lib.Math.min.name, Cond.static Lib.Math.min.name, Cond.code Lib.Math.min.name Lib.Math.min.code 2 (some .int), Cond.methodLink R_E 15 Lib.Math.max.name, Cond.static Lib.Math.max.name, Cond.code Lib.Math.max.name Lib.Math.max.code 2 (some .int), Cond.classLink R_E 25 R_N, Cond.instantiable R_N 12, Cond.methodLink R_E 31 y_N_init, Cond.instanceMethod y_N_init, Cond.code y_N_init prog_2_method_1_code 6 none, Cond.methodLink R_N 3 objectInit, Cond.constantLong R_N 44 (-1), Cond.methodLink R_N 46 y_JA_fill, Cond.static y_JA_fill, Cond.code y_JA_fill prog_9_method_101_code 5 none, Cond.fieldLink "EchoPayments$Node" 35 "EchoPayments$Node" "me" "I", Cond.fieldLink "EchoPayments$Node" 38 "EchoPayments$Node" "size" "I", Cond.fieldLink "EchoPayments$Node" 41 "EchoPayments$Node" "mostFaulty" "I", Cond.fieldLink "EchoPayments$Node" 9 "EchoPayments$Node" "condition" "I", Cond.fieldLink "EchoPayments$Node" 52 "EchoPayments$Node" "fuseLeft" "I", Cond.fieldLink "EchoPayments$Node" 55 "EchoPayments$Node" "submissions" "I", Cond.fieldLink "EchoPayments$Node" 15 "EchoPayments$Node" "said" "[J"]
def WT_1 : List Cond := [Cond.fieldLink "EchoPayments$Node" 19 "EchoPayments$Node" "appliedCount" "[I", Cond.fieldLink "EchoPayments$Node" 23 "EchoPayments$Node" "freedCount" "[I", Cond.fieldLink "EchoPayments$Node" 26 "EchoPayments$Node" "balances" "[J", Cond.fieldLink "EchoPayments$Node" 29 "EchoPayments$Node" "told" "[J", Cond.fieldLink "EchoPayments$Node" 32 "EchoPayments$Node" "acceptedPapers" "[J", Cond.laysFinal "EchoPayments$Node" "EchoPayments$Node" "me" "I", Cond.laysFinal "EchoPayments$Node" "EchoPayments$Node" "size" "I", Cond.laysFinal "EchoPayments$Node" "EchoPayments$Node" "mostFaulty" "I", Cond.lays "EchoPayments$Node" "EchoPayments$Node" "condition" "I", Cond.lays "EchoPayments$Node" "EchoPayments$Node" "fuseLeft" "I", Cond.lays "EchoPayments$Node" "EchoPayments$Node" "submissions" "I", Cond.laysFinal "EchoPayments$Node" "EchoPayments$Node" "said" "[J", Cond.laysFinal "EchoPayments$Node" "EchoPayments$Node" "appliedCount" "[I", Cond.laysFinal "EchoPayments$Node" "EchoPayments$Node" "freedCount" "[I", Cond.laysFinal "EchoPayments$Node" "EchoPayments$Node" "balances" "[J", Cond.laysFinal "EchoPayments$Node" "EchoPayments$Node" "told" "[J", Cond.laysFinal "EchoPayments$Node" "EchoPayments$Node" "acceptedPapers" "[J", Cond.arrayClass FieldType.long, Cond.arrayClass FieldType.int, Cond.fieldLink "EchoPayments" 18 "EchoPayments" "size" "I", Cond.fieldLink "EchoPayments" 22 "EchoPayments" "mostFaulty" "I", Cond.fieldLink "EchoPayments" 27 "EchoPayments" "nodes" "[LEchoPayments$Node;", Cond.fieldLink "EchoPayments" 47 "EchoPayments" "faultyNodes" "I", Cond.laysFinal "EchoPayments" "EchoPayments" "size" "I", Cond.laysFinal "EchoPayments" "EchoPayments" "mostFaulty" "I", Cond.laysFinal "EchoPayments" "EchoPayments" "nodes" "[LEchoPayments$Node;", Cond.lays "EchoPayments" "EchoPayments" "faultyNodes" "I", Cond.methodLink R_L 21 y_E_submit, Cond.instanceMethod y_E_submit, Cond.selects R_E y_E_submit y_E_submit, Cond.code y_E_submit prog_1_method_2_code 4 (some .int), Cond.methodLink R_E 34 y_E_isUp, Cond.instanceMethod y_E_isUp, Cond.code y_E_isUp prog_1_method_22_code 2 (some .boolean), Cond.methodLink R_E 38 y_E_isNode, Cond.instanceMethod y_E_isNode, Cond.code y_E_isNode prog_1_method_20_code 2 (some .boolean), Cond.methodLink R_E 119 y_N_condition, Cond.instanceMethod y_N_condition, Cond.selects R_N y_N_condition y_N_condition]
def WT_2 : List Cond := [Cond.code y_N_condition prog_2_method_2_code 1 (some .int), Cond.methodLink R_E 41 y_N_writeSubmission, Cond.instanceMethod y_N_writeSubmission, Cond.selects R_N y_N_writeSubmission y_N_writeSubmission, Cond.code y_N_writeSubmission prog_2_method_12_code 3 (some .int), Cond.methodLink R_N 58 y_N_spendable, Cond.instanceMethod y_N_spendable, Cond.code y_N_spendable prog_2_method_31_code 4 (some .long), Cond.methodLink R_N 62 y_T_of, Cond.static y_T_of, Cond.code y_T_of prog_4_method_2_code 3 (some .int), Cond.methodLink R_N 150 y_P_amount, Cond.static y_P_amount, Cond.code y_P_amount prog_3_method_3_code 2 (some .int), Cond.constantLong R_P 11 (1023), Cond.methodLink R_N 68 y_N_needs, Cond.instanceMethod y_N_needs, Cond.code y_N_needs prog_2_method_32_code 4 (some .long), Cond.methodLink R_N 173 y_N_lastPaymentBy, Cond.instanceMethod y_N_lastPaymentBy, Cond.code y_N_lastPaymentBy prog_2_method_33_code 3 (some .int), Cond.methodLink R_N 158 y_P_payee, Cond.static y_P_payee, Cond.code y_P_payee prog_3_method_2_code 2 (some .int), Cond.constantLong R_P 9 (7), Cond.methodLink R_N 71 y_P_make, Cond.static y_P_make, Cond.code y_P_make prog_3_method_5_code 4 (some .long), Cond.methodLink R_N 77 y_N_write, Cond.instanceMethod y_N_write, Cond.code y_N_write prog_2_method_34_code 4 (some .boolean), Cond.methodLink R_N 176 y_N_goDown, Cond.instanceMethod y_N_goDown, Cond.selects R_N y_N_goDown y_N_goDown, Cond.code y_N_goDown prog_2_method_11_code 1 none, Cond.methodLink R_N 168 Lib.Math.max.name, Cond.methodLink R_L 26 y_E_corrupt, Cond.instanceMethod y_E_corrupt, Cond.selects R_E y_E_corrupt y_E_corrupt, Cond.code y_E_corrupt prog_1_method_3_code 2 (some .boolean)]
def WT_3 : List Cond := [Cond.methodLink R_E 44 y_E_isCorrect, Cond.instanceMethod y_E_isCorrect, Cond.code y_E_isCorrect prog_1_method_21_code 2 (some .boolean), Cond.methodLink R_E 50 y_N_turnFaulty, Cond.instanceMethod y_N_turnFaulty, Cond.selects R_N y_N_turnFaulty y_N_turnFaulty, Cond.code y_N_turnFaulty prog_2_method_8_code 1 none, Cond.methodLink R_L 33 y_E_forge, Cond.instanceMethod y_E_forge, Cond.selects R_E y_E_forge y_E_forge, Cond.code y_E_forge prog_1_method_4_code 7 (some .int), Cond.methodLink R_E 53 y_E_state, Cond.instanceMethod y_E_state, Cond.selects R_E y_E_state y_E_state, Cond.code y_E_state prog_1_method_19_code 2 (some .int), Cond.methodLink R_E 57 y_E_topicOf, Cond.instanceMethod y_E_topicOf, Cond.code y_E_topicOf prog_1_method_23_code 4 (some .int), Cond.methodLink R_E 122 y_T_of, Cond.methodLink R_E 61 y_N_receive, Cond.instanceMethod y_N_receive, Cond.selects R_N y_N_receive y_N_receive, Cond.code y_N_receive prog_2_method_14_code 6 (some .int), Cond.methodLink R_N 81 y_N_isWellFormed, Cond.instanceMethod y_N_isWellFormed, Cond.code y_N_isWellFormed prog_2_method_20_code 4 (some .boolean), Cond.methodLink R_N 115 y_P_isMark, Cond.static y_P_isMark, Cond.code y_P_isMark prog_3_method_8_code 4 (some .boolean), Cond.methodLink R_P 30 y_P_digit, Cond.static y_P_digit, Cond.code y_P_digit prog_3_method_6_code 3 (some .int), Cond.methodLink R_N 95 y_T_account, Cond.static y_T_account, Cond.code y_T_account prog_4_method_6_code 1 (some .int), Cond.methodLink R_N 119 y_P_isWellFormed, Cond.static y_P_isWellFormed, Cond.code y_P_isWellFormed prog_3_method_7_code 4 (some .boolean), Cond.methodLink R_P 15 y_P_payee, Cond.methodLink R_P 19 y_P_amount]
def WT_4 : List Cond := [Cond.methodLink R_P 22 y_P_need, Cond.static y_P_need, Cond.code y_P_need prog_3_method_4_code 3 (some .int), Cond.methodLink R_P 26 y_P_isMark, Cond.methodLink R_N 84 y_N_objection, Cond.instanceMethod y_N_objection, Cond.code y_N_objection prog_2_method_16_code 9 (some .int), Cond.methodLink R_N 91 y_T_kind, Cond.static y_T_kind, Cond.code y_T_kind prog_4_method_4_code 1 (some .int), Cond.methodLink R_N 98 y_T_seq, Cond.static y_T_seq, Cond.code y_T_seq prog_4_method_7_code 1 (some .int), Cond.methodLink R_N 101 y_T_instance, Cond.static y_T_instance, Cond.code y_T_instance prog_4_method_5_code 1 (some .int), Cond.methodLink R_N 104 y_T_at, Cond.static y_T_at, Cond.code y_T_at prog_4_method_3_code 2 (some .int), Cond.methodLink R_N 88 y_N_take, Cond.instanceMethod y_N_take, Cond.code y_N_take prog_2_method_21_code 7 (some .int), Cond.methodLink R_N 122 y_N_freeWhatIsMarked, Cond.instanceMethod y_N_freeWhatIsMarked, Cond.code y_N_freeWhatIsMarked prog_2_method_29_code 6 none, Cond.methodLink R_N 136 y_N_countTellersOf, Cond.instanceMethod y_N_countTellersOf, Cond.code y_N_countTellersOf prog_2_method_24_code 6 (some .int), Cond.methodLink R_N 161 y_P_digit, Cond.methodLink R_N 164 y_N_forget, Cond.instanceMethod y_N_forget, Cond.code y_N_forget prog_2_method_30_code 4 none, Cond.methodLink R_N 125 y_N_callsForReady, Cond.instanceMethod y_N_callsForReady, Cond.code y_N_callsForReady prog_2_method_22_code 5 (some .boolean), Cond.methodLink R_N 129 y_N_isAcceptable, Cond.instanceMethod y_N_isAcceptable, Cond.code y_N_isAcceptable prog_2_method_23_code 4 (some .boolean), Cond.methodLink R_N 132 y_N_applyWhatIsValid, Cond.instanceMethod y_N_applyWhatIsValid]
def WT_5 : List Cond := [Cond.code y_N_applyWhatIsValid prog_2_method_25_code 4 (some .int), Cond.methodLink R_N 140 y_N_leastPayer, Cond.instanceMethod y_N_leastPayer, Cond.code y_N_leastPayer prog_2_method_26_code 2 (some .int), Cond.methodLink R_N 147 y_N_isValid, Cond.instanceMethod y_N_isValid, Cond.code y_N_isValid prog_2_method_27_code 5 (some .boolean), Cond.methodLink R_N 154 y_P_need, Cond.methodLink R_N 143 y_N_pay, Cond.instanceMethod y_N_pay, Cond.code y_N_pay prog_2_method_28_code 4 none, Cond.methodLink R_L 38 y_E_carry, Cond.instanceMethod y_E_carry, Cond.selects R_E y_E_carry y_E_carry, Cond.code y_E_carry prog_1_method_5_code 7 (some .int), Cond.methodLink R_E 65 y_N_said, Cond.instanceMethod y_N_said, Cond.selects R_N y_N_said y_N_said, Cond.code y_N_said prog_2_method_3_code 2 (some .long), Cond.constantLong R_E 69 (-1), Cond.methodLink R_L 43 y_E_pump, Cond.instanceMethod y_E_pump, Cond.selects R_E y_E_pump y_E_pump, Cond.code y_E_pump prog_1_method_6_code 6 (some .int), Cond.methodLink R_E 71 y_E_firstPending, Cond.instanceMethod y_E_firstPending, Cond.code y_E_firstPending prog_1_method_24_code 5 (some .int), Cond.methodLink R_E 75 y_E_takers, Cond.instanceMethod y_E_takers, Cond.code y_E_takers prog_1_method_25_code 7 (some .int), Cond.methodLink R_E 125 y_N_wouldTake, Cond.instanceMethod y_N_wouldTake, Cond.selects R_N y_N_wouldTake y_N_wouldTake, Cond.code y_N_wouldTake prog_2_method_15_code 5 (some .boolean), Cond.methodLink R_L 48 y_E_pending, Cond.instanceMethod y_E_pending, Cond.selects R_E y_E_pending y_E_pending, Cond.code y_E_pending prog_1_method_7_code 4 (some .int), Cond.methodLink R_E 78 y_JI_bitCount, Cond.static y_JI_bitCount]
def WT_6 : List Cond := [Cond.code y_JI_bitCount prog_7_method_49_code 1 (some .int), Cond.constant "java/lang/Integer" 265 (1431655765), Cond.constant "java/lang/Integer" 266 (858993459), Cond.constant "java/lang/Integer" 267 (252645135), Cond.methodLink R_L 53 y_E_crash, Cond.instanceMethod y_E_crash, Cond.selects R_E y_E_crash y_E_crash, Cond.code y_E_crash prog_1_method_8_code 2 (some .boolean), Cond.methodLink R_E 83 y_N_goDown, Cond.methodLink R_L 57 y_E_restart, Cond.instanceMethod y_E_restart, Cond.selects R_E y_E_restart y_E_restart, Cond.code y_E_restart prog_1_method_9_code 2 (some .boolean), Cond.methodLink R_E 86 y_N_comeUp, Cond.instanceMethod y_N_comeUp, Cond.selects R_N y_N_comeUp y_N_comeUp, Cond.code y_N_comeUp prog_2_method_9_code 1 none, Cond.methodLink R_L 61 y_E_fuse, Cond.instanceMethod y_E_fuse, Cond.selects R_E y_E_fuse y_E_fuse, Cond.code y_E_fuse prog_1_method_10_code 3 (some .boolean), Cond.methodLink R_E 89 y_N_setFuse, Cond.instanceMethod y_N_setFuse, Cond.selects R_N y_N_setFuse y_N_setFuse, Cond.code y_N_setFuse prog_2_method_10_code 2 none, Cond.methodLink R_L 66 y_E_mark, Cond.instanceMethod y_E_mark, Cond.selects R_E y_E_mark y_E_mark, Cond.code y_E_mark prog_1_method_11_code 2 (some .int), Cond.methodLink R_E 93 y_N_writeMark, Cond.instanceMethod y_N_writeMark, Cond.selects R_N y_N_writeMark y_N_writeMark, Cond.code y_N_writeMark prog_2_method_13_code 4 (some .int), Cond.methodLink R_L 70 y_E_sent, Cond.instanceMethod y_E_sent, Cond.selects R_E y_E_sent y_E_sent, Cond.code y_E_sent prog_1_method_12_code 6 (some .long), Cond.methodLink R_L 75 y_E_heard, Cond.instanceMethod y_E_heard, Cond.selects R_E y_E_heard y_E_heard]
def WT_7 : List Cond := [Cond.code y_E_heard prog_1_method_13_code 6 (some .int), Cond.methodLink R_E 96 y_N_countTellers, Cond.instanceMethod y_N_countTellers, Cond.selects R_N y_N_countTellers y_N_countTellers, Cond.code y_N_countTellers prog_2_method_17_code 4 (some .int), Cond.methodLink R_L 80 y_E_accepted, Cond.instanceMethod y_E_accepted, Cond.selects R_E y_E_accepted y_E_accepted, Cond.code y_E_accepted prog_1_method_14_code 5 (some .long), Cond.methodLink R_E 99 y_T_instance, Cond.methodLink R_E 104 y_N_acceptedFor, Cond.instanceMethod y_N_acceptedFor, Cond.selects R_N y_N_acceptedFor y_N_acceptedFor, Cond.code y_N_acceptedFor prog_2_method_4_code 2 (some .long), Cond.methodLink R_L 85 y_E_applied, Cond.instanceMethod y_E_applied, Cond.selects R_E y_E_applied y_E_applied, Cond.code y_E_applied prog_1_method_15_code 3 (some .int), Cond.methodLink R_E 107 y_N_appliedOf, Cond.instanceMethod y_N_appliedOf, Cond.selects R_N y_N_appliedOf y_N_appliedOf, Cond.code y_N_appliedOf prog_2_method_5_code 2 (some .int), Cond.methodLink R_L 90 y_E_balance, Cond.instanceMethod y_E_balance, Cond.selects R_E y_E_balance y_E_balance, Cond.code y_E_balance prog_1_method_16_code 3 (some .long), Cond.methodLink R_E 110 y_N_balanceOf, Cond.instanceMethod y_N_balanceOf, Cond.selects R_N y_N_balanceOf y_N_balanceOf, Cond.code y_N_balanceOf prog_2_method_6_code 2 (some .long), Cond.methodLink R_L 95 y_E_freed, Cond.instanceMethod y_E_freed, Cond.selects R_E y_E_freed y_E_freed, Cond.code y_E_freed prog_1_method_17_code 3 (some .int), Cond.methodLink R_E 113 y_N_freedOf, Cond.instanceMethod y_N_freedOf, Cond.selects R_N y_N_freedOf y_N_freedOf, Cond.code y_N_freedOf prog_2_method_7_code 2 (some .int), Cond.methodLink R_L 99 y_E_kept, Cond.instanceMethod y_E_kept]
def WT_8 : List Cond := [Cond.selects R_E y_E_kept y_E_kept, Cond.code y_E_kept prog_1_method_18_code 2 (some .int), Cond.methodLink R_E 116 y_N_countKept, Cond.instanceMethod y_N_countKept, Cond.selects R_N y_N_countKept y_N_countKept, Cond.code y_N_countKept prog_2_method_18_code 3 (some .int), Cond.methodLink R_N 108 y_N_keeps, Cond.instanceMethod y_N_keeps, Cond.code y_N_keeps prog_2_method_19_code 2 (some .boolean), Cond.methodLink R_N 112 y_N_countTellers, Cond.methodLink R_L 103 y_E_state, Cond.methodLink R_L 9 y_L_cell, Cond.static y_L_cell, Cond.code y_L_cell method_2_code 2 (some .int), Cond.classLink R_L 18 R_M, Cond.instantiable R_M 15, Cond.methodLink R_L 20 y_M_init, Cond.instanceMethod y_M_init, Cond.code y_M_init prog_6_method_1_code 3 none, Cond.methodLink R_M 1 objectInit, Cond.constantLong R_M 54 (1000), Cond.fieldLink "EchoPaymentsModel" 47 "EchoPaymentsModel" "n" "I", Cond.fieldLink "EchoPaymentsModel" 51 "EchoPaymentsModel" "f" "I", Cond.fieldLink "EchoPaymentsModel" 56 "EchoPaymentsModel" "first" "J", Cond.fieldLink "EchoPaymentsModel" 7 "EchoPaymentsModel" "status" "[I", Cond.fieldLink "EchoPaymentsModel" 13 "EchoPaymentsModel" "fuses" "[I", Cond.fieldLink "EchoPaymentsModel" 16 "EchoPaymentsModel" "submitted" "[I", Cond.fieldLink "EchoPaymentsModel" 19 "EchoPaymentsModel" "own" "[J", Cond.fieldLink "EchoPaymentsModel" 23 "EchoPaymentsModel" "echo" "[J", Cond.fieldLink "EchoPaymentsModel" 26 "EchoPaymentsModel" "ready" "[J", Cond.fieldLink "EchoPaymentsModel" 29 "EchoPaymentsModel" "applied" "[J", Cond.fieldLink "EchoPaymentsModel" 32 "EchoPaymentsModel" "freed" "[I", Cond.fieldLink "EchoPaymentsModel" 35 "EchoPaymentsModel" "marks" "[I", Cond.fieldLink "EchoPaymentsModel" 38 "EchoPaymentsModel" "heard" "[J", Cond.fieldLink "EchoPaymentsModel" 41 "EchoPaymentsModel" "heardMark" "[I", Cond.fieldLink "EchoPaymentsModel" 44 "EchoPaymentsModel" "accepted" "[J", Cond.laysFinal "EchoPaymentsModel" "EchoPaymentsModel" "n" "I", Cond.laysFinal "EchoPaymentsModel" "EchoPaymentsModel" "f" "I", Cond.laysFinal "EchoPaymentsModel" "EchoPaymentsModel" "first" "J", Cond.laysFinal "EchoPaymentsModel" "EchoPaymentsModel" "status" "[I"]
def WT_9 : List Cond := [Cond.laysFinal "EchoPaymentsModel" "EchoPaymentsModel" "fuses" "[I", Cond.laysFinal "EchoPaymentsModel" "EchoPaymentsModel" "submitted" "[I", Cond.laysFinal "EchoPaymentsModel" "EchoPaymentsModel" "own" "[J", Cond.laysFinal "EchoPaymentsModel" "EchoPaymentsModel" "echo" "[J", Cond.laysFinal "EchoPaymentsModel" "EchoPaymentsModel" "ready" "[J", Cond.laysFinal "EchoPaymentsModel" "EchoPaymentsModel" "applied" "[J", Cond.laysFinal "EchoPaymentsModel" "EchoPaymentsModel" "freed" "[I", Cond.laysFinal "EchoPaymentsModel" "EchoPaymentsModel" "marks" "[I", Cond.laysFinal "EchoPaymentsModel" "EchoPaymentsModel" "heard" "[J", Cond.laysFinal "EchoPaymentsModel" "EchoPaymentsModel" "heardMark" "[I", Cond.laysFinal "EchoPaymentsModel" "EchoPaymentsModel" "accepted" "[J", Cond.methodLink R_L 52 y_M_pending, Cond.instanceMethod y_M_pending, Cond.selects R_M y_M_pending y_M_pending, Cond.code y_M_pending prog_6_method_28_code 4 (some .int), Cond.methodLink R_M 159 y_M_to, Cond.instanceMethod y_M_to, Cond.code y_M_to prog_6_method_27_code 8 (some .int), Cond.methodLink R_M 140 y_M_correct, Cond.instanceMethod y_M_correct, Cond.code y_M_correct prog_6_method_4_code 2 (some .boolean), Cond.methodLink R_M 143 y_M_kindOf, Cond.static y_M_kindOf, Cond.code y_M_kindOf prog_6_method_24_code 1 (some .int), Cond.methodLink R_M 146 y_M_accountOf, Cond.static y_M_accountOf, Cond.code y_M_accountOf prog_6_method_25_code 1 (some .int), Cond.methodLink R_M 149 y_M_seqOf, Cond.static y_M_seqOf, Cond.code y_M_seqOf prog_6_method_26_code 1 (some .int), Cond.methodLink R_M 152 y_M_said, Cond.instanceMethod y_M_said, Cond.code y_M_said prog_6_method_17_code 7 (some .long), Cond.constantLong R_M 99 (-1), Cond.methodLink R_M 64 y_M_isInstance, Cond.instanceMethod y_M_isInstance, Cond.code y_M_isInstance prog_6_method_6_code 3 (some .boolean), Cond.methodLink R_M 83 y_M_at, Cond.static y_M_at, Cond.code y_M_at prog_6_method_2_code 3 (some .int)]
def WT_10 : List Cond := [Cond.methodLink R_M 156 y_M_up, Cond.instanceMethod y_M_up, Cond.code y_M_up prog_6_method_5_code 2 (some .boolean), Cond.methodLink R_M 113 y_M_objection, Cond.instanceMethod y_M_objection, Cond.code y_M_objection prog_6_method_18_code 10 (some .int), Cond.methodLink R_M 101 y_M_isMark, Cond.instanceMethod y_M_isMark, Cond.code y_M_isMark prog_6_method_11_code 4 (some .boolean), Cond.constantLong R_M 60 (7), Cond.constantLong R_M 81 (5), Cond.methodLink R_M 105 y_M_wellFormed, Cond.instanceMethod y_M_wellFormed, Cond.code y_M_wellFormed prog_6_method_10_code 7 (some .boolean), Cond.constantLong R_M 68 (17179869184), Cond.methodLink R_M 70 y_M_payeeOf, Cond.static y_M_payeeOf, Cond.code y_M_payeeOf prog_6_method_7_code 2 (some .int), Cond.methodLink R_M 74 y_M_amountOf, Cond.static y_M_amountOf, Cond.code y_M_amountOf prog_6_method_8_code 2 (some .int), Cond.constantLong R_M 62 (1023), Cond.methodLink R_M 77 y_M_needOf, Cond.static y_M_needOf, Cond.code y_M_needOf prog_6_method_9_code 3 (some .int), Cond.methodLink R_M 109 y_M_ear, Cond.static y_M_ear, Cond.code y_M_ear prog_6_method_3_code 5 (some .int), Cond.methodLink R_L 47 y_M_pump, Cond.instanceMethod y_M_pump, Cond.selects R_M y_M_pump y_M_pump, Cond.code y_M_pump prog_6_method_30_code 3 (some .int), Cond.methodLink R_M 166 y_M_deliver, Cond.instanceMethod y_M_deliver, Cond.code y_M_deliver prog_6_method_29_code 6 (some .boolean), Cond.methodLink R_M 163 y_M_receive, Cond.instanceMethod y_M_receive, Cond.code y_M_receive prog_6_method_20_code 13 (some .int), Cond.methodLink R_M 117 y_M_release, Cond.instanceMethod y_M_release]
def WT_11 : List Cond := [Cond.code y_M_release prog_6_method_22_code 6 none, Cond.methodLink R_M 136 y_M_forget, Cond.instanceMethod y_M_forget, Cond.code y_M_forget prog_6_method_23_code 6 none, Cond.methodLink R_M 120 y_M_burns, Cond.instanceMethod y_M_burns, Cond.code y_M_burns prog_6_method_16_code 2 (some .boolean), Cond.methodLink R_M 95 y_M_fall, Cond.instanceMethod y_M_fall, Cond.code y_M_fall prog_6_method_15_code 3 none, Cond.methodLink R_M 124 y_M_many, Cond.instanceMethod y_M_many, Cond.code y_M_many prog_6_method_19_code 9 (some .int), Cond.methodLink R_M 87 y_M_count, Cond.instanceMethod y_M_count, Cond.code y_M_count prog_6_method_12_code 5 (some .int), Cond.methodLink R_M 128 y_M_apply, Cond.instanceMethod y_M_apply, Cond.code y_M_apply prog_6_method_21_code 9 (some .int), Cond.methodLink R_M 132 y_M_valid, Cond.instanceMethod y_M_valid, Cond.code y_M_valid prog_6_method_14_code 6 (some .boolean), Cond.methodLink R_M 91 y_M_worth, Cond.instanceMethod y_M_worth, Cond.code y_M_worth prog_6_method_13_code 9 (some .long), Cond.methodLink R_L 42 y_M_carry, Cond.instanceMethod y_M_carry, Cond.selects R_M y_M_carry y_M_carry, Cond.code y_M_carry prog_6_method_31_code 8 (some .int), Cond.methodLink R_L 37 y_M_forge, Cond.instanceMethod y_M_forge, Cond.selects R_M y_M_forge y_M_forge, Cond.code y_M_forge prog_6_method_32_code 6 (some .int), Cond.methodLink R_L 25 y_M_submit, Cond.instanceMethod y_M_submit, Cond.selects R_M y_M_submit y_M_submit, Cond.code y_M_submit prog_6_method_33_code 14 (some .int), Cond.constantLong R_M 170 (8), Cond.methodLink R_L 30 y_M_corrupt, Cond.instanceMethod y_M_corrupt]
def WT_12 : List Cond := [Cond.selects R_M y_M_corrupt y_M_corrupt, Cond.code y_M_corrupt prog_6_method_34_code 4 (some .boolean), Cond.methodLink R_L 56 y_M_crash, Cond.instanceMethod y_M_crash, Cond.selects R_M y_M_crash y_M_crash, Cond.code y_M_crash prog_6_method_35_code 2 (some .boolean), Cond.methodLink R_L 60 y_M_restart, Cond.instanceMethod y_M_restart, Cond.selects R_M y_M_restart y_M_restart, Cond.code y_M_restart prog_6_method_36_code 2 (some .boolean), Cond.methodLink R_L 65 y_M_fuse, Cond.instanceMethod y_M_fuse, Cond.selects R_M y_M_fuse y_M_fuse, Cond.code y_M_fuse prog_6_method_37_code 3 (some .boolean), Cond.methodLink R_L 69 y_M_mark, Cond.instanceMethod y_M_mark, Cond.selects R_M y_M_mark y_M_mark, Cond.code y_M_mark prog_6_method_38_code 4 (some .int), Cond.methodLink R_L 74 y_M_sent, Cond.instanceMethod y_M_sent, Cond.selects R_M y_M_sent y_M_sent, Cond.code y_M_sent prog_6_method_39_code 5 (some .long), Cond.methodLink R_L 79 y_M_heard, Cond.instanceMethod y_M_heard, Cond.selects R_M y_M_heard y_M_heard, Cond.code y_M_heard prog_6_method_40_code 10 (some .int), Cond.methodLink R_L 84 y_M_accepted, Cond.instanceMethod y_M_accepted, Cond.selects R_M y_M_accepted y_M_accepted, Cond.code y_M_accepted prog_6_method_41_code 4 (some .long), Cond.methodLink R_L 89 y_M_applied, Cond.instanceMethod y_M_applied, Cond.selects R_M y_M_applied y_M_applied, Cond.code y_M_applied prog_6_method_42_code 3 (some .int), Cond.methodLink R_L 94 y_M_balance, Cond.instanceMethod y_M_balance, Cond.selects R_M y_M_balance y_M_balance, Cond.code y_M_balance prog_6_method_43_code 3 (some .long), Cond.methodLink R_L 98 y_M_freed, Cond.instanceMethod y_M_freed]
def WT_13 : List Cond := [Cond.selects R_M y_M_freed y_M_freed, Cond.code y_M_freed prog_6_method_44_code 3 (some .int), Cond.methodLink R_L 102 y_M_kept, Cond.instanceMethod y_M_kept, Cond.selects R_M y_M_kept y_M_kept, Cond.code y_M_kept prog_6_method_45_code 7 (some .int), Cond.methodLink R_M 172 y_M_heard, Cond.methodLink R_L 106 y_M_state, Cond.instanceMethod y_M_state, Cond.selects R_M y_M_state y_M_state, Cond.code y_M_state prog_6_method_46_code 2 (some .int), Cond.constantLong R_L 31 (4294967295), Cond.selects R_E y_E_isUp y_E_isUp, Cond.selects R_E y_E_isNode y_E_isNode, Cond.selects R_N y_N_spendable y_N_spendable, Cond.selects R_N y_N_needs y_N_needs, Cond.selects R_N y_N_lastPaymentBy y_N_lastPaymentBy, Cond.selects R_N y_N_write y_N_write, Cond.selects R_E y_E_isCorrect y_E_isCorrect, Cond.selects R_E y_E_topicOf y_E_topicOf, Cond.selects R_N y_N_isWellFormed y_N_isWellFormed, Cond.selects R_N y_N_objection y_N_objection, Cond.selects R_N y_N_take y_N_take, Cond.selects R_N y_N_freeWhatIsMarked y_N_freeWhatIsMarked, Cond.selects R_N y_N_countTellersOf y_N_countTellersOf, Cond.selects R_N y_N_forget y_N_forget, Cond.selects R_N y_N_callsForReady y_N_callsForReady, Cond.selects R_N y_N_isAcceptable y_N_isAcceptable, Cond.selects R_N y_N_applyWhatIsValid y_N_applyWhatIsValid, Cond.selects R_N y_N_leastPayer y_N_leastPayer, Cond.selects R_N y_N_isValid y_N_isValid, Cond.selects R_N y_N_pay y_N_pay, Cond.selects R_E y_E_firstPending y_E_firstPending, Cond.selects R_E y_E_takers y_E_takers, Cond.selects R_N y_N_keeps y_N_keeps, Cond.selects R_M y_M_to y_M_to, Cond.selects R_M y_M_correct y_M_correct, Cond.selects R_M y_M_said y_M_said, Cond.selects R_M y_M_isInstance y_M_isInstance, Cond.selects R_M y_M_up y_M_up]
def WT_14 : List Cond := [Cond.selects R_M y_M_objection y_M_objection, Cond.selects R_M y_M_isMark y_M_isMark, Cond.selects R_M y_M_wellFormed y_M_wellFormed, Cond.selects R_M y_M_deliver y_M_deliver, Cond.selects R_M y_M_receive y_M_receive, Cond.selects R_M y_M_release y_M_release, Cond.selects R_M y_M_forget y_M_forget, Cond.selects R_M y_M_burns y_M_burns, Cond.selects R_M y_M_fall y_M_fall, Cond.selects R_M y_M_many y_M_many, Cond.selects R_M y_M_count y_M_count, Cond.selects R_M y_M_apply y_M_apply, Cond.selects R_M y_M_valid y_M_valid, Cond.selects R_M y_M_worth y_M_worth]
def WT : List Cond := WT_0 ++ (WT_1 ++ (WT_2 ++ (WT_3 ++ (WT_4 ++ (WT_5 ++ (WT_6 ++ (WT_7 ++ (WT_8 ++ (WT_9 ++ (WT_10 ++ (WT_11 ++ (WT_12 ++ (WT_13 ++ (WT_14))))))))))))))
theorem wm_0 : Cond.initialized R_L ∈ WT := (List.mem_append_left _ (List.mem_of_getElem? (i := 0) rfl))
theorem wm_1 : Cond.initialized R_E ∈ WT := (List.mem_append_left _ (List.mem_of_getElem? (i := 1) rfl))
theorem wm_2 : Cond.initialized "java/lang/Math" ∈ WT := (List.mem_append_left _ (List.mem_of_getElem? (i := 2) rfl))
theorem wm_3 : Cond.initialized R_N ∈ WT := (List.mem_append_left _ (List.mem_of_getElem? (i := 3) rfl))
theorem wm_4 : Cond.initialized "java/util/Arrays" ∈ WT := (List.mem_append_left _ (List.mem_of_getElem? (i := 4) rfl))
theorem wm_5 : Cond.initialized R_M ∈ WT := (List.mem_append_left _ (List.mem_of_getElem? (i := 5) rfl))
theorem wm_6 : Cond.initialized R_T ∈ WT := (List.mem_append_left _ (List.mem_of_getElem? (i := 6) rfl))
theorem wm_7 : Cond.initialized R_P ∈ WT := (List.mem_append_left _ (List.mem_of_getElem? (i := 7) rfl))
theorem wm_8 : Cond.initialized "java/lang/Integer" ∈ WT := (List.mem_append_left _ (List.mem_of_getElem? (i := 8) rfl))
theorem wm_9 : Cond.classLink R_L 7 R_E ∈ WT := (List.mem_append_left _ (List.mem_of_getElem? (i := 9) rfl))
theorem wm_10 : Cond.instantiable R_E 4 ∈ WT := (List.mem_append_left _ (List.mem_of_getElem? (i := 10) rfl))
theorem wm_11 : Cond.methodLink R_L 15 y_E_init ∈ WT := (List.mem_append_left _ (List.mem_of_getElem? (i := 11) rfl))
theorem wm_12 : Cond.instanceMethod y_E_init ∈ WT := (List.mem_append_left _ (List.mem_of_getElem? (i := 12) rfl))
theorem wm_13 : Cond.code y_E_init prog_1_method_1_code 6 none ∈ WT := (List.mem_append_left _ (List.mem_of_getElem? (i := 13) rfl))
theorem wm_14 : Cond.methodLink R_E 3 objectInit ∈ WT := (List.mem_append_left _ (List.mem_of_getElem? (i := 14) rfl))
theorem wm_15 : Cond.instanceMethod objectInit ∈ WT := (List.mem_append_left _ (List.mem_of_getElem? (i := 15) rfl))
theorem wm_16 : Cond.code objectInit ⟨#[0xb1]⟩ 1 none ∈ WT := (List.mem_append_left _ (List.mem_of_getElem? (i := 16) rfl))
theorem wm_17 : Cond.methodLink R_E 9 Lib.Math.min.name ∈ WT := (List.mem_append_left _ (List.mem_of_getElem? (i := 17) rfl))
theorem wm_18 : Cond.static Lib.Math.min.name ∈ WT := (List.mem_append_left _ (List.mem_of_getElem? (i := 18) rfl))
theorem wm_19 : Cond.code Lib.Math.min.name Lib.Math.min.code 2 (some .int) ∈ WT := (List.mem_append_left _ (List.mem_of_getElem? (i := 19) rfl))
theorem wm_20 : Cond.methodLink R_E 15 Lib.Math.max.name ∈ WT := (List.mem_append_left _ (List.mem_of_getElem? (i := 20) rfl))
theorem wm_21 : Cond.static Lib.Math.max.name ∈ WT := (List.mem_append_left _ (List.mem_of_getElem? (i := 21) rfl))
theorem wm_22 : Cond.code Lib.Math.max.name Lib.Math.max.code 2 (some .int) ∈ WT := (List.mem_append_left _ (List.mem_of_getElem? (i := 22) rfl))
theorem wm_23 : Cond.classLink R_E 25 R_N ∈ WT := (List.mem_append_left _ (List.mem_of_getElem? (i := 23) rfl))
theorem wm_24 : Cond.instantiable R_N 12 ∈ WT := (List.mem_append_left _ (List.mem_of_getElem? (i := 24) rfl))
theorem wm_25 : Cond.methodLink R_E 31 y_N_init ∈ WT := (List.mem_append_left _ (List.mem_of_getElem? (i := 25) rfl))
theorem wm_26 : Cond.instanceMethod y_N_init ∈ WT := (List.mem_append_left _ (List.mem_of_getElem? (i := 26) rfl))
theorem wm_27 : Cond.code y_N_init prog_2_method_1_code 6 none ∈ WT := (List.mem_append_left _ (List.mem_of_getElem? (i := 27) rfl))
theorem wm_28 : Cond.methodLink R_N 3 objectInit ∈ WT := (List.mem_append_left _ (List.mem_of_getElem? (i := 28) rfl))
theorem wm_29 : Cond.constantLong R_N 44 (-1) ∈ WT := (List.mem_append_left _ (List.mem_of_getElem? (i := 29) rfl))
theorem wm_30 : Cond.methodLink R_N 46 y_JA_fill ∈ WT := (List.mem_append_left _ (List.mem_of_getElem? (i := 30) rfl))
theorem wm_31 : Cond.static y_JA_fill ∈ WT := (List.mem_append_left _ (List.mem_of_getElem? (i := 31) rfl))
theorem wm_32 : Cond.code y_JA_fill prog_9_method_101_code 5 none ∈ WT := (List.mem_append_left _ (List.mem_of_getElem? (i := 32) rfl))
theorem wm_33 : Cond.fieldLink "EchoPayments$Node" 35 "EchoPayments$Node" "me" "I" ∈ WT := (List.mem_append_left _ (List.mem_of_getElem? (i := 33) rfl))
theorem wm_34 : Cond.fieldLink "EchoPayments$Node" 38 "EchoPayments$Node" "size" "I" ∈ WT := (List.mem_append_left _ (List.mem_of_getElem? (i := 34) rfl))
theorem wm_35 : Cond.fieldLink "EchoPayments$Node" 41 "EchoPayments$Node" "mostFaulty" "I" ∈ WT := (List.mem_append_left _ (List.mem_of_getElem? (i := 35) rfl))
theorem wm_36 : Cond.fieldLink "EchoPayments$Node" 9 "EchoPayments$Node" "condition" "I" ∈ WT := (List.mem_append_left _ (List.mem_of_getElem? (i := 36) rfl))
theorem wm_37 : Cond.fieldLink "EchoPayments$Node" 52 "EchoPayments$Node" "fuseLeft" "I" ∈ WT := (List.mem_append_left _ (List.mem_of_getElem? (i := 37) rfl))
theorem wm_38 : Cond.fieldLink "EchoPayments$Node" 55 "EchoPayments$Node" "submissions" "I" ∈ WT := (List.mem_append_left _ (List.mem_of_getElem? (i := 38) rfl))
theorem wm_39 : Cond.fieldLink "EchoPayments$Node" 15 "EchoPayments$Node" "said" "[J" ∈ WT := (List.mem_append_left _ (List.mem_of_getElem? (i := 39) rfl))
theorem wm_40 : Cond.fieldLink "EchoPayments$Node" 19 "EchoPayments$Node" "appliedCount" "[I" ∈ WT := (List.mem_append_right _ (List.mem_append_left _ (List.mem_of_getElem? (i := 0) rfl)))
theorem wm_41 : Cond.fieldLink "EchoPayments$Node" 23 "EchoPayments$Node" "freedCount" "[I" ∈ WT := (List.mem_append_right _ (List.mem_append_left _ (List.mem_of_getElem? (i := 1) rfl)))
theorem wm_42 : Cond.fieldLink "EchoPayments$Node" 26 "EchoPayments$Node" "balances" "[J" ∈ WT := (List.mem_append_right _ (List.mem_append_left _ (List.mem_of_getElem? (i := 2) rfl)))
theorem wm_43 : Cond.fieldLink "EchoPayments$Node" 29 "EchoPayments$Node" "told" "[J" ∈ WT := (List.mem_append_right _ (List.mem_append_left _ (List.mem_of_getElem? (i := 3) rfl)))
theorem wm_44 : Cond.fieldLink "EchoPayments$Node" 32 "EchoPayments$Node" "acceptedPapers" "[J" ∈ WT := (List.mem_append_right _ (List.mem_append_left _ (List.mem_of_getElem? (i := 4) rfl)))
theorem wm_45 : Cond.laysFinal "EchoPayments$Node" "EchoPayments$Node" "me" "I" ∈ WT := (List.mem_append_right _ (List.mem_append_left _ (List.mem_of_getElem? (i := 5) rfl)))
theorem wm_46 : Cond.laysFinal "EchoPayments$Node" "EchoPayments$Node" "size" "I" ∈ WT := (List.mem_append_right _ (List.mem_append_left _ (List.mem_of_getElem? (i := 6) rfl)))
theorem wm_47 : Cond.laysFinal "EchoPayments$Node" "EchoPayments$Node" "mostFaulty" "I" ∈ WT := (List.mem_append_right _ (List.mem_append_left _ (List.mem_of_getElem? (i := 7) rfl)))
theorem wm_48 : Cond.lays "EchoPayments$Node" "EchoPayments$Node" "condition" "I" ∈ WT := (List.mem_append_right _ (List.mem_append_left _ (List.mem_of_getElem? (i := 8) rfl)))
theorem wm_49 : Cond.lays "EchoPayments$Node" "EchoPayments$Node" "fuseLeft" "I" ∈ WT := (List.mem_append_right _ (List.mem_append_left _ (List.mem_of_getElem? (i := 9) rfl)))
theorem wm_50 : Cond.lays "EchoPayments$Node" "EchoPayments$Node" "submissions" "I" ∈ WT := (List.mem_append_right _ (List.mem_append_left _ (List.mem_of_getElem? (i := 10) rfl)))
theorem wm_51 : Cond.laysFinal "EchoPayments$Node" "EchoPayments$Node" "said" "[J" ∈ WT := (List.mem_append_right _ (List.mem_append_left _ (List.mem_of_getElem? (i := 11) rfl)))
theorem wm_52 : Cond.laysFinal "EchoPayments$Node" "EchoPayments$Node" "appliedCount" "[I" ∈ WT := (List.mem_append_right _ (List.mem_append_left _ (List.mem_of_getElem? (i := 12) rfl)))
theorem wm_53 : Cond.laysFinal "EchoPayments$Node" "EchoPayments$Node" "freedCount" "[I" ∈ WT := (List.mem_append_right _ (List.mem_append_left _ (List.mem_of_getElem? (i := 13) rfl)))
theorem wm_54 : Cond.laysFinal "EchoPayments$Node" "EchoPayments$Node" "balances" "[J" ∈ WT := (List.mem_append_right _ (List.mem_append_left _ (List.mem_of_getElem? (i := 14) rfl)))
theorem wm_55 : Cond.laysFinal "EchoPayments$Node" "EchoPayments$Node" "told" "[J" ∈ WT := (List.mem_append_right _ (List.mem_append_left _ (List.mem_of_getElem? (i := 15) rfl)))
theorem wm_56 : Cond.laysFinal "EchoPayments$Node" "EchoPayments$Node" "acceptedPapers" "[J" ∈ WT := (List.mem_append_right _ (List.mem_append_left _ (List.mem_of_getElem? (i := 16) rfl)))
theorem wm_57 : Cond.arrayClass FieldType.long ∈ WT := (List.mem_append_right _ (List.mem_append_left _ (List.mem_of_getElem? (i := 17) rfl)))
theorem wm_58 : Cond.arrayClass FieldType.int ∈ WT := (List.mem_append_right _ (List.mem_append_left _ (List.mem_of_getElem? (i := 18) rfl)))
theorem wm_59 : Cond.fieldLink "EchoPayments" 18 "EchoPayments" "size" "I" ∈ WT := (List.mem_append_right _ (List.mem_append_left _ (List.mem_of_getElem? (i := 19) rfl)))
theorem wm_60 : Cond.fieldLink "EchoPayments" 22 "EchoPayments" "mostFaulty" "I" ∈ WT := (List.mem_append_right _ (List.mem_append_left _ (List.mem_of_getElem? (i := 20) rfl)))
theorem wm_61 : Cond.fieldLink "EchoPayments" 27 "EchoPayments" "nodes" "[LEchoPayments$Node;" ∈ WT := (List.mem_append_right _ (List.mem_append_left _ (List.mem_of_getElem? (i := 21) rfl)))
theorem wm_62 : Cond.fieldLink "EchoPayments" 47 "EchoPayments" "faultyNodes" "I" ∈ WT := (List.mem_append_right _ (List.mem_append_left _ (List.mem_of_getElem? (i := 22) rfl)))
theorem wm_63 : Cond.laysFinal "EchoPayments" "EchoPayments" "size" "I" ∈ WT := (List.mem_append_right _ (List.mem_append_left _ (List.mem_of_getElem? (i := 23) rfl)))
theorem wm_64 : Cond.laysFinal "EchoPayments" "EchoPayments" "mostFaulty" "I" ∈ WT := (List.mem_append_right _ (List.mem_append_left _ (List.mem_of_getElem? (i := 24) rfl)))
theorem wm_65 : Cond.laysFinal "EchoPayments" "EchoPayments" "nodes" "[LEchoPayments$Node;" ∈ WT := (List.mem_append_right _ (List.mem_append_left _ (List.mem_of_getElem? (i := 25) rfl)))
theorem wm_66 : Cond.lays "EchoPayments" "EchoPayments" "faultyNodes" "I" ∈ WT := (List.mem_append_right _ (List.mem_append_left _ (List.mem_of_getElem? (i := 26) rfl)))
theorem wm_67 : Cond.methodLink R_L 21 y_E_submit ∈ WT := (List.mem_append_right _ (List.mem_append_left _ (List.mem_of_getElem? (i := 27) rfl)))
theorem wm_68 : Cond.instanceMethod y_E_submit ∈ WT := (List.mem_append_right _ (List.mem_append_left _ (List.mem_of_getElem? (i := 28) rfl)))
theorem wm_69 : Cond.selects R_E y_E_submit y_E_submit ∈ WT := (List.mem_append_right _ (List.mem_append_left _ (List.mem_of_getElem? (i := 29) rfl)))
theorem wm_70 : Cond.code y_E_submit prog_1_method_2_code 4 (some .int) ∈ WT := (List.mem_append_right _ (List.mem_append_left _ (List.mem_of_getElem? (i := 30) rfl)))
theorem wm_71 : Cond.methodLink R_E 34 y_E_isUp ∈ WT := (List.mem_append_right _ (List.mem_append_left _ (List.mem_of_getElem? (i := 31) rfl)))
theorem wm_72 : Cond.instanceMethod y_E_isUp ∈ WT := (List.mem_append_right _ (List.mem_append_left _ (List.mem_of_getElem? (i := 32) rfl)))
theorem wm_73 : Cond.code y_E_isUp prog_1_method_22_code 2 (some .boolean) ∈ WT := (List.mem_append_right _ (List.mem_append_left _ (List.mem_of_getElem? (i := 33) rfl)))
theorem wm_74 : Cond.methodLink R_E 38 y_E_isNode ∈ WT := (List.mem_append_right _ (List.mem_append_left _ (List.mem_of_getElem? (i := 34) rfl)))
theorem wm_75 : Cond.instanceMethod y_E_isNode ∈ WT := (List.mem_append_right _ (List.mem_append_left _ (List.mem_of_getElem? (i := 35) rfl)))
theorem wm_76 : Cond.code y_E_isNode prog_1_method_20_code 2 (some .boolean) ∈ WT := (List.mem_append_right _ (List.mem_append_left _ (List.mem_of_getElem? (i := 36) rfl)))
theorem wm_77 : Cond.methodLink R_E 119 y_N_condition ∈ WT := (List.mem_append_right _ (List.mem_append_left _ (List.mem_of_getElem? (i := 37) rfl)))
theorem wm_78 : Cond.instanceMethod y_N_condition ∈ WT := (List.mem_append_right _ (List.mem_append_left _ (List.mem_of_getElem? (i := 38) rfl)))
theorem wm_79 : Cond.selects R_N y_N_condition y_N_condition ∈ WT := (List.mem_append_right _ (List.mem_append_left _ (List.mem_of_getElem? (i := 39) rfl)))
theorem wm_80 : Cond.code y_N_condition prog_2_method_2_code 1 (some .int) ∈ WT := (List.mem_append_right _ (List.mem_append_right _ (List.mem_append_left _ (List.mem_of_getElem? (i := 0) rfl))))
theorem wm_81 : Cond.methodLink R_E 41 y_N_writeSubmission ∈ WT := (List.mem_append_right _ (List.mem_append_right _ (List.mem_append_left _ (List.mem_of_getElem? (i := 1) rfl))))
theorem wm_82 : Cond.instanceMethod y_N_writeSubmission ∈ WT := (List.mem_append_right _ (List.mem_append_right _ (List.mem_append_left _ (List.mem_of_getElem? (i := 2) rfl))))
theorem wm_83 : Cond.selects R_N y_N_writeSubmission y_N_writeSubmission ∈ WT := (List.mem_append_right _ (List.mem_append_right _ (List.mem_append_left _ (List.mem_of_getElem? (i := 3) rfl))))
theorem wm_84 : Cond.code y_N_writeSubmission prog_2_method_12_code 3 (some .int) ∈ WT := (List.mem_append_right _ (List.mem_append_right _ (List.mem_append_left _ (List.mem_of_getElem? (i := 4) rfl))))
theorem wm_85 : Cond.methodLink R_N 58 y_N_spendable ∈ WT := (List.mem_append_right _ (List.mem_append_right _ (List.mem_append_left _ (List.mem_of_getElem? (i := 5) rfl))))
theorem wm_86 : Cond.instanceMethod y_N_spendable ∈ WT := (List.mem_append_right _ (List.mem_append_right _ (List.mem_append_left _ (List.mem_of_getElem? (i := 6) rfl))))
theorem wm_87 : Cond.code y_N_spendable prog_2_method_31_code 4 (some .long) ∈ WT := (List.mem_append_right _ (List.mem_append_right _ (List.mem_append_left _ (List.mem_of_getElem? (i := 7) rfl))))
theorem wm_88 : Cond.methodLink R_N 62 y_T_of ∈ WT := (List.mem_append_right _ (List.mem_append_right _ (List.mem_append_left _ (List.mem_of_getElem? (i := 8) rfl))))
theorem wm_89 : Cond.static y_T_of ∈ WT := (List.mem_append_right _ (List.mem_append_right _ (List.mem_append_left _ (List.mem_of_getElem? (i := 9) rfl))))
theorem wm_90 : Cond.code y_T_of prog_4_method_2_code 3 (some .int) ∈ WT := (List.mem_append_right _ (List.mem_append_right _ (List.mem_append_left _ (List.mem_of_getElem? (i := 10) rfl))))
theorem wm_91 : Cond.methodLink R_N 150 y_P_amount ∈ WT := (List.mem_append_right _ (List.mem_append_right _ (List.mem_append_left _ (List.mem_of_getElem? (i := 11) rfl))))
theorem wm_92 : Cond.static y_P_amount ∈ WT := (List.mem_append_right _ (List.mem_append_right _ (List.mem_append_left _ (List.mem_of_getElem? (i := 12) rfl))))
theorem wm_93 : Cond.code y_P_amount prog_3_method_3_code 2 (some .int) ∈ WT := (List.mem_append_right _ (List.mem_append_right _ (List.mem_append_left _ (List.mem_of_getElem? (i := 13) rfl))))
theorem wm_94 : Cond.constantLong R_P 11 (1023) ∈ WT := (List.mem_append_right _ (List.mem_append_right _ (List.mem_append_left _ (List.mem_of_getElem? (i := 14) rfl))))
theorem wm_95 : Cond.methodLink R_N 68 y_N_needs ∈ WT := (List.mem_append_right _ (List.mem_append_right _ (List.mem_append_left _ (List.mem_of_getElem? (i := 15) rfl))))
theorem wm_96 : Cond.instanceMethod y_N_needs ∈ WT := (List.mem_append_right _ (List.mem_append_right _ (List.mem_append_left _ (List.mem_of_getElem? (i := 16) rfl))))
theorem wm_97 : Cond.code y_N_needs prog_2_method_32_code 4 (some .long) ∈ WT := (List.mem_append_right _ (List.mem_append_right _ (List.mem_append_left _ (List.mem_of_getElem? (i := 17) rfl))))
theorem wm_98 : Cond.methodLink R_N 173 y_N_lastPaymentBy ∈ WT := (List.mem_append_right _ (List.mem_append_right _ (List.mem_append_left _ (List.mem_of_getElem? (i := 18) rfl))))
theorem wm_99 : Cond.instanceMethod y_N_lastPaymentBy ∈ WT := (List.mem_append_right _ (List.mem_append_right _ (List.mem_append_left _ (List.mem_of_getElem? (i := 19) rfl))))
theorem wm_100 : Cond.code y_N_lastPaymentBy prog_2_method_33_code 3 (some .int) ∈ WT := (List.mem_append_right _ (List.mem_append_right _ (List.mem_append_left _ (List.mem_of_getElem? (i := 20) rfl))))
theorem wm_101 : Cond.methodLink R_N 158 y_P_payee ∈ WT := (List.mem_append_right _ (List.mem_append_right _ (List.mem_append_left _ (List.mem_of_getElem? (i := 21) rfl))))
theorem wm_102 : Cond.static y_P_payee ∈ WT := (List.mem_append_right _ (List.mem_append_right _ (List.mem_append_left _ (List.mem_of_getElem? (i := 22) rfl))))
theorem wm_103 : Cond.code y_P_payee prog_3_method_2_code 2 (some .int) ∈ WT := (List.mem_append_right _ (List.mem_append_right _ (List.mem_append_left _ (List.mem_of_getElem? (i := 23) rfl))))
theorem wm_104 : Cond.constantLong R_P 9 (7) ∈ WT := (List.mem_append_right _ (List.mem_append_right _ (List.mem_append_left _ (List.mem_of_getElem? (i := 24) rfl))))
theorem wm_105 : Cond.methodLink R_N 71 y_P_make ∈ WT := (List.mem_append_right _ (List.mem_append_right _ (List.mem_append_left _ (List.mem_of_getElem? (i := 25) rfl))))
theorem wm_106 : Cond.static y_P_make ∈ WT := (List.mem_append_right _ (List.mem_append_right _ (List.mem_append_left _ (List.mem_of_getElem? (i := 26) rfl))))
theorem wm_107 : Cond.code y_P_make prog_3_method_5_code 4 (some .long) ∈ WT := (List.mem_append_right _ (List.mem_append_right _ (List.mem_append_left _ (List.mem_of_getElem? (i := 27) rfl))))
theorem wm_108 : Cond.methodLink R_N 77 y_N_write ∈ WT := (List.mem_append_right _ (List.mem_append_right _ (List.mem_append_left _ (List.mem_of_getElem? (i := 28) rfl))))
theorem wm_109 : Cond.instanceMethod y_N_write ∈ WT := (List.mem_append_right _ (List.mem_append_right _ (List.mem_append_left _ (List.mem_of_getElem? (i := 29) rfl))))
theorem wm_110 : Cond.code y_N_write prog_2_method_34_code 4 (some .boolean) ∈ WT := (List.mem_append_right _ (List.mem_append_right _ (List.mem_append_left _ (List.mem_of_getElem? (i := 30) rfl))))
theorem wm_111 : Cond.methodLink R_N 176 y_N_goDown ∈ WT := (List.mem_append_right _ (List.mem_append_right _ (List.mem_append_left _ (List.mem_of_getElem? (i := 31) rfl))))
theorem wm_112 : Cond.instanceMethod y_N_goDown ∈ WT := (List.mem_append_right _ (List.mem_append_right _ (List.mem_append_left _ (List.mem_of_getElem? (i := 32) rfl))))
theorem wm_113 : Cond.selects R_N y_N_goDown y_N_goDown ∈ WT := (List.mem_append_right _ (List.mem_append_right _ (List.mem_append_left _ (List.mem_of_getElem? (i := 33) rfl))))
theorem wm_114 : Cond.code y_N_goDown prog_2_method_11_code 1 none ∈ WT := (List.mem_append_right _ (List.mem_append_right _ (List.mem_append_left _ (List.mem_of_getElem? (i := 34) rfl))))
theorem wm_115 : Cond.methodLink R_N 168 Lib.Math.max.name ∈ WT := (List.mem_append_right _ (List.mem_append_right _ (List.mem_append_left _ (List.mem_of_getElem? (i := 35) rfl))))
theorem wm_116 : Cond.methodLink R_L 26 y_E_corrupt ∈ WT := (List.mem_append_right _ (List.mem_append_right _ (List.mem_append_left _ (List.mem_of_getElem? (i := 36) rfl))))
theorem wm_117 : Cond.instanceMethod y_E_corrupt ∈ WT := (List.mem_append_right _ (List.mem_append_right _ (List.mem_append_left _ (List.mem_of_getElem? (i := 37) rfl))))
theorem wm_118 : Cond.selects R_E y_E_corrupt y_E_corrupt ∈ WT := (List.mem_append_right _ (List.mem_append_right _ (List.mem_append_left _ (List.mem_of_getElem? (i := 38) rfl))))
theorem wm_119 : Cond.code y_E_corrupt prog_1_method_3_code 2 (some .boolean) ∈ WT := (List.mem_append_right _ (List.mem_append_right _ (List.mem_append_left _ (List.mem_of_getElem? (i := 39) rfl))))
theorem wm_120 : Cond.methodLink R_E 44 y_E_isCorrect ∈ WT := (List.mem_append_right _ (List.mem_append_right _ (List.mem_append_right _ (List.mem_append_left _ (List.mem_of_getElem? (i := 0) rfl)))))
theorem wm_121 : Cond.instanceMethod y_E_isCorrect ∈ WT := (List.mem_append_right _ (List.mem_append_right _ (List.mem_append_right _ (List.mem_append_left _ (List.mem_of_getElem? (i := 1) rfl)))))
theorem wm_122 : Cond.code y_E_isCorrect prog_1_method_21_code 2 (some .boolean) ∈ WT := (List.mem_append_right _ (List.mem_append_right _ (List.mem_append_right _ (List.mem_append_left _ (List.mem_of_getElem? (i := 2) rfl)))))
theorem wm_123 : Cond.methodLink R_E 50 y_N_turnFaulty ∈ WT := (List.mem_append_right _ (List.mem_append_right _ (List.mem_append_right _ (List.mem_append_left _ (List.mem_of_getElem? (i := 3) rfl)))))
theorem wm_124 : Cond.instanceMethod y_N_turnFaulty ∈ WT := (List.mem_append_right _ (List.mem_append_right _ (List.mem_append_right _ (List.mem_append_left _ (List.mem_of_getElem? (i := 4) rfl)))))
theorem wm_125 : Cond.selects R_N y_N_turnFaulty y_N_turnFaulty ∈ WT := (List.mem_append_right _ (List.mem_append_right _ (List.mem_append_right _ (List.mem_append_left _ (List.mem_of_getElem? (i := 5) rfl)))))
theorem wm_126 : Cond.code y_N_turnFaulty prog_2_method_8_code 1 none ∈ WT := (List.mem_append_right _ (List.mem_append_right _ (List.mem_append_right _ (List.mem_append_left _ (List.mem_of_getElem? (i := 6) rfl)))))
theorem wm_127 : Cond.methodLink R_L 33 y_E_forge ∈ WT := (List.mem_append_right _ (List.mem_append_right _ (List.mem_append_right _ (List.mem_append_left _ (List.mem_of_getElem? (i := 7) rfl)))))
theorem wm_128 : Cond.instanceMethod y_E_forge ∈ WT := (List.mem_append_right _ (List.mem_append_right _ (List.mem_append_right _ (List.mem_append_left _ (List.mem_of_getElem? (i := 8) rfl)))))
theorem wm_129 : Cond.selects R_E y_E_forge y_E_forge ∈ WT := (List.mem_append_right _ (List.mem_append_right _ (List.mem_append_right _ (List.mem_append_left _ (List.mem_of_getElem? (i := 9) rfl)))))
theorem wm_130 : Cond.code y_E_forge prog_1_method_4_code 7 (some .int) ∈ WT := (List.mem_append_right _ (List.mem_append_right _ (List.mem_append_right _ (List.mem_append_left _ (List.mem_of_getElem? (i := 10) rfl)))))
theorem wm_131 : Cond.methodLink R_E 53 y_E_state ∈ WT := (List.mem_append_right _ (List.mem_append_right _ (List.mem_append_right _ (List.mem_append_left _ (List.mem_of_getElem? (i := 11) rfl)))))
theorem wm_132 : Cond.instanceMethod y_E_state ∈ WT := (List.mem_append_right _ (List.mem_append_right _ (List.mem_append_right _ (List.mem_append_left _ (List.mem_of_getElem? (i := 12) rfl)))))
theorem wm_133 : Cond.selects R_E y_E_state y_E_state ∈ WT := (List.mem_append_right _ (List.mem_append_right _ (List.mem_append_right _ (List.mem_append_left _ (List.mem_of_getElem? (i := 13) rfl)))))
theorem wm_134 : Cond.code y_E_state prog_1_method_19_code 2 (some .int) ∈ WT := (List.mem_append_right _ (List.mem_append_right _ (List.mem_append_right _ (List.mem_append_left _ (List.mem_of_getElem? (i := 14) rfl)))))
theorem wm_135 : Cond.methodLink R_E 57 y_E_topicOf ∈ WT := (List.mem_append_right _ (List.mem_append_right _ (List.mem_append_right _ (List.mem_append_left _ (List.mem_of_getElem? (i := 15) rfl)))))
theorem wm_136 : Cond.instanceMethod y_E_topicOf ∈ WT := (List.mem_append_right _ (List.mem_append_right _ (List.mem_append_right _ (List.mem_append_left _ (List.mem_of_getElem? (i := 16) rfl)))))
theorem wm_137 : Cond.code y_E_topicOf prog_1_method_23_code 4 (some .int) ∈ WT := (List.mem_append_right _ (List.mem_append_right _ (List.mem_append_right _ (List.mem_append_left _ (List.mem_of_getElem? (i := 17) rfl)))))
theorem wm_138 : Cond.methodLink R_E 122 y_T_of ∈ WT := (List.mem_append_right _ (List.mem_append_right _ (List.mem_append_right _ (List.mem_append_left _ (List.mem_of_getElem? (i := 18) rfl)))))
theorem wm_139 : Cond.methodLink R_E 61 y_N_receive ∈ WT := (List.mem_append_right _ (List.mem_append_right _ (List.mem_append_right _ (List.mem_append_left _ (List.mem_of_getElem? (i := 19) rfl)))))
theorem wm_140 : Cond.instanceMethod y_N_receive ∈ WT := (List.mem_append_right _ (List.mem_append_right _ (List.mem_append_right _ (List.mem_append_left _ (List.mem_of_getElem? (i := 20) rfl)))))
theorem wm_141 : Cond.selects R_N y_N_receive y_N_receive ∈ WT := (List.mem_append_right _ (List.mem_append_right _ (List.mem_append_right _ (List.mem_append_left _ (List.mem_of_getElem? (i := 21) rfl)))))
theorem wm_142 : Cond.code y_N_receive prog_2_method_14_code 6 (some .int) ∈ WT := (List.mem_append_right _ (List.mem_append_right _ (List.mem_append_right _ (List.mem_append_left _ (List.mem_of_getElem? (i := 22) rfl)))))
theorem wm_143 : Cond.methodLink R_N 81 y_N_isWellFormed ∈ WT := (List.mem_append_right _ (List.mem_append_right _ (List.mem_append_right _ (List.mem_append_left _ (List.mem_of_getElem? (i := 23) rfl)))))
theorem wm_144 : Cond.instanceMethod y_N_isWellFormed ∈ WT := (List.mem_append_right _ (List.mem_append_right _ (List.mem_append_right _ (List.mem_append_left _ (List.mem_of_getElem? (i := 24) rfl)))))
theorem wm_145 : Cond.code y_N_isWellFormed prog_2_method_20_code 4 (some .boolean) ∈ WT := (List.mem_append_right _ (List.mem_append_right _ (List.mem_append_right _ (List.mem_append_left _ (List.mem_of_getElem? (i := 25) rfl)))))
theorem wm_146 : Cond.methodLink R_N 115 y_P_isMark ∈ WT := (List.mem_append_right _ (List.mem_append_right _ (List.mem_append_right _ (List.mem_append_left _ (List.mem_of_getElem? (i := 26) rfl)))))
theorem wm_147 : Cond.static y_P_isMark ∈ WT := (List.mem_append_right _ (List.mem_append_right _ (List.mem_append_right _ (List.mem_append_left _ (List.mem_of_getElem? (i := 27) rfl)))))
theorem wm_148 : Cond.code y_P_isMark prog_3_method_8_code 4 (some .boolean) ∈ WT := (List.mem_append_right _ (List.mem_append_right _ (List.mem_append_right _ (List.mem_append_left _ (List.mem_of_getElem? (i := 28) rfl)))))
theorem wm_149 : Cond.methodLink R_P 30 y_P_digit ∈ WT := (List.mem_append_right _ (List.mem_append_right _ (List.mem_append_right _ (List.mem_append_left _ (List.mem_of_getElem? (i := 29) rfl)))))
theorem wm_150 : Cond.static y_P_digit ∈ WT := (List.mem_append_right _ (List.mem_append_right _ (List.mem_append_right _ (List.mem_append_left _ (List.mem_of_getElem? (i := 30) rfl)))))
theorem wm_151 : Cond.code y_P_digit prog_3_method_6_code 3 (some .int) ∈ WT := (List.mem_append_right _ (List.mem_append_right _ (List.mem_append_right _ (List.mem_append_left _ (List.mem_of_getElem? (i := 31) rfl)))))
theorem wm_152 : Cond.methodLink R_N 95 y_T_account ∈ WT := (List.mem_append_right _ (List.mem_append_right _ (List.mem_append_right _ (List.mem_append_left _ (List.mem_of_getElem? (i := 32) rfl)))))
theorem wm_153 : Cond.static y_T_account ∈ WT := (List.mem_append_right _ (List.mem_append_right _ (List.mem_append_right _ (List.mem_append_left _ (List.mem_of_getElem? (i := 33) rfl)))))
theorem wm_154 : Cond.code y_T_account prog_4_method_6_code 1 (some .int) ∈ WT := (List.mem_append_right _ (List.mem_append_right _ (List.mem_append_right _ (List.mem_append_left _ (List.mem_of_getElem? (i := 34) rfl)))))
theorem wm_155 : Cond.methodLink R_N 119 y_P_isWellFormed ∈ WT := (List.mem_append_right _ (List.mem_append_right _ (List.mem_append_right _ (List.mem_append_left _ (List.mem_of_getElem? (i := 35) rfl)))))
theorem wm_156 : Cond.static y_P_isWellFormed ∈ WT := (List.mem_append_right _ (List.mem_append_right _ (List.mem_append_right _ (List.mem_append_left _ (List.mem_of_getElem? (i := 36) rfl)))))
theorem wm_157 : Cond.code y_P_isWellFormed prog_3_method_7_code 4 (some .boolean) ∈ WT := (List.mem_append_right _ (List.mem_append_right _ (List.mem_append_right _ (List.mem_append_left _ (List.mem_of_getElem? (i := 37) rfl)))))
theorem wm_158 : Cond.methodLink R_P 15 y_P_payee ∈ WT := (List.mem_append_right _ (List.mem_append_right _ (List.mem_append_right _ (List.mem_append_left _ (List.mem_of_getElem? (i := 38) rfl)))))
theorem wm_159 : Cond.methodLink R_P 19 y_P_amount ∈ WT := (List.mem_append_right _ (List.mem_append_right _ (List.mem_append_right _ (List.mem_append_left _ (List.mem_of_getElem? (i := 39) rfl)))))
theorem wm_160 : Cond.methodLink R_P 22 y_P_need ∈ WT := (List.mem_append_right _ (List.mem_append_right _ (List.mem_append_right _ (List.mem_append_right _ (List.mem_append_left _ (List.mem_of_getElem? (i := 0) rfl))))))
theorem wm_161 : Cond.static y_P_need ∈ WT := (List.mem_append_right _ (List.mem_append_right _ (List.mem_append_right _ (List.mem_append_right _ (List.mem_append_left _ (List.mem_of_getElem? (i := 1) rfl))))))
theorem wm_162 : Cond.code y_P_need prog_3_method_4_code 3 (some .int) ∈ WT := (List.mem_append_right _ (List.mem_append_right _ (List.mem_append_right _ (List.mem_append_right _ (List.mem_append_left _ (List.mem_of_getElem? (i := 2) rfl))))))
theorem wm_163 : Cond.methodLink R_P 26 y_P_isMark ∈ WT := (List.mem_append_right _ (List.mem_append_right _ (List.mem_append_right _ (List.mem_append_right _ (List.mem_append_left _ (List.mem_of_getElem? (i := 3) rfl))))))
theorem wm_164 : Cond.methodLink R_N 84 y_N_objection ∈ WT := (List.mem_append_right _ (List.mem_append_right _ (List.mem_append_right _ (List.mem_append_right _ (List.mem_append_left _ (List.mem_of_getElem? (i := 4) rfl))))))
theorem wm_165 : Cond.instanceMethod y_N_objection ∈ WT := (List.mem_append_right _ (List.mem_append_right _ (List.mem_append_right _ (List.mem_append_right _ (List.mem_append_left _ (List.mem_of_getElem? (i := 5) rfl))))))
theorem wm_166 : Cond.code y_N_objection prog_2_method_16_code 9 (some .int) ∈ WT := (List.mem_append_right _ (List.mem_append_right _ (List.mem_append_right _ (List.mem_append_right _ (List.mem_append_left _ (List.mem_of_getElem? (i := 6) rfl))))))
theorem wm_167 : Cond.methodLink R_N 91 y_T_kind ∈ WT := (List.mem_append_right _ (List.mem_append_right _ (List.mem_append_right _ (List.mem_append_right _ (List.mem_append_left _ (List.mem_of_getElem? (i := 7) rfl))))))
theorem wm_168 : Cond.static y_T_kind ∈ WT := (List.mem_append_right _ (List.mem_append_right _ (List.mem_append_right _ (List.mem_append_right _ (List.mem_append_left _ (List.mem_of_getElem? (i := 8) rfl))))))
theorem wm_169 : Cond.code y_T_kind prog_4_method_4_code 1 (some .int) ∈ WT := (List.mem_append_right _ (List.mem_append_right _ (List.mem_append_right _ (List.mem_append_right _ (List.mem_append_left _ (List.mem_of_getElem? (i := 9) rfl))))))
theorem wm_170 : Cond.methodLink R_N 98 y_T_seq ∈ WT := (List.mem_append_right _ (List.mem_append_right _ (List.mem_append_right _ (List.mem_append_right _ (List.mem_append_left _ (List.mem_of_getElem? (i := 10) rfl))))))
theorem wm_171 : Cond.static y_T_seq ∈ WT := (List.mem_append_right _ (List.mem_append_right _ (List.mem_append_right _ (List.mem_append_right _ (List.mem_append_left _ (List.mem_of_getElem? (i := 11) rfl))))))
theorem wm_172 : Cond.code y_T_seq prog_4_method_7_code 1 (some .int) ∈ WT := (List.mem_append_right _ (List.mem_append_right _ (List.mem_append_right _ (List.mem_append_right _ (List.mem_append_left _ (List.mem_of_getElem? (i := 12) rfl))))))
theorem wm_173 : Cond.methodLink R_N 101 y_T_instance ∈ WT := (List.mem_append_right _ (List.mem_append_right _ (List.mem_append_right _ (List.mem_append_right _ (List.mem_append_left _ (List.mem_of_getElem? (i := 13) rfl))))))
theorem wm_174 : Cond.static y_T_instance ∈ WT := (List.mem_append_right _ (List.mem_append_right _ (List.mem_append_right _ (List.mem_append_right _ (List.mem_append_left _ (List.mem_of_getElem? (i := 14) rfl))))))
theorem wm_175 : Cond.code y_T_instance prog_4_method_5_code 1 (some .int) ∈ WT := (List.mem_append_right _ (List.mem_append_right _ (List.mem_append_right _ (List.mem_append_right _ (List.mem_append_left _ (List.mem_of_getElem? (i := 15) rfl))))))
theorem wm_176 : Cond.methodLink R_N 104 y_T_at ∈ WT := (List.mem_append_right _ (List.mem_append_right _ (List.mem_append_right _ (List.mem_append_right _ (List.mem_append_left _ (List.mem_of_getElem? (i := 16) rfl))))))
theorem wm_177 : Cond.static y_T_at ∈ WT := (List.mem_append_right _ (List.mem_append_right _ (List.mem_append_right _ (List.mem_append_right _ (List.mem_append_left _ (List.mem_of_getElem? (i := 17) rfl))))))
theorem wm_178 : Cond.code y_T_at prog_4_method_3_code 2 (some .int) ∈ WT := (List.mem_append_right _ (List.mem_append_right _ (List.mem_append_right _ (List.mem_append_right _ (List.mem_append_left _ (List.mem_of_getElem? (i := 18) rfl))))))
theorem wm_179 : Cond.methodLink R_N 88 y_N_take ∈ WT := (List.mem_append_right _ (List.mem_append_right _ (List.mem_append_right _ (List.mem_append_right _ (List.mem_append_left _ (List.mem_of_getElem? (i := 19) rfl))))))
theorem wm_180 : Cond.instanceMethod y_N_take ∈ WT := (List.mem_append_right _ (List.mem_append_right _ (List.mem_append_right _ (List.mem_append_right _ (List.mem_append_left _ (List.mem_of_getElem? (i := 20) rfl))))))
theorem wm_181 : Cond.code y_N_take prog_2_method_21_code 7 (some .int) ∈ WT := (List.mem_append_right _ (List.mem_append_right _ (List.mem_append_right _ (List.mem_append_right _ (List.mem_append_left _ (List.mem_of_getElem? (i := 21) rfl))))))
theorem wm_182 : Cond.methodLink R_N 122 y_N_freeWhatIsMarked ∈ WT := (List.mem_append_right _ (List.mem_append_right _ (List.mem_append_right _ (List.mem_append_right _ (List.mem_append_left _ (List.mem_of_getElem? (i := 22) rfl))))))
theorem wm_183 : Cond.instanceMethod y_N_freeWhatIsMarked ∈ WT := (List.mem_append_right _ (List.mem_append_right _ (List.mem_append_right _ (List.mem_append_right _ (List.mem_append_left _ (List.mem_of_getElem? (i := 23) rfl))))))
theorem wm_184 : Cond.code y_N_freeWhatIsMarked prog_2_method_29_code 6 none ∈ WT := (List.mem_append_right _ (List.mem_append_right _ (List.mem_append_right _ (List.mem_append_right _ (List.mem_append_left _ (List.mem_of_getElem? (i := 24) rfl))))))
theorem wm_185 : Cond.methodLink R_N 136 y_N_countTellersOf ∈ WT := (List.mem_append_right _ (List.mem_append_right _ (List.mem_append_right _ (List.mem_append_right _ (List.mem_append_left _ (List.mem_of_getElem? (i := 25) rfl))))))
theorem wm_186 : Cond.instanceMethod y_N_countTellersOf ∈ WT := (List.mem_append_right _ (List.mem_append_right _ (List.mem_append_right _ (List.mem_append_right _ (List.mem_append_left _ (List.mem_of_getElem? (i := 26) rfl))))))
theorem wm_187 : Cond.code y_N_countTellersOf prog_2_method_24_code 6 (some .int) ∈ WT := (List.mem_append_right _ (List.mem_append_right _ (List.mem_append_right _ (List.mem_append_right _ (List.mem_append_left _ (List.mem_of_getElem? (i := 27) rfl))))))
theorem wm_188 : Cond.methodLink R_N 161 y_P_digit ∈ WT := (List.mem_append_right _ (List.mem_append_right _ (List.mem_append_right _ (List.mem_append_right _ (List.mem_append_left _ (List.mem_of_getElem? (i := 28) rfl))))))
theorem wm_189 : Cond.methodLink R_N 164 y_N_forget ∈ WT := (List.mem_append_right _ (List.mem_append_right _ (List.mem_append_right _ (List.mem_append_right _ (List.mem_append_left _ (List.mem_of_getElem? (i := 29) rfl))))))
theorem wm_190 : Cond.instanceMethod y_N_forget ∈ WT := (List.mem_append_right _ (List.mem_append_right _ (List.mem_append_right _ (List.mem_append_right _ (List.mem_append_left _ (List.mem_of_getElem? (i := 30) rfl))))))
theorem wm_191 : Cond.code y_N_forget prog_2_method_30_code 4 none ∈ WT := (List.mem_append_right _ (List.mem_append_right _ (List.mem_append_right _ (List.mem_append_right _ (List.mem_append_left _ (List.mem_of_getElem? (i := 31) rfl))))))
theorem wm_192 : Cond.methodLink R_N 125 y_N_callsForReady ∈ WT := (List.mem_append_right _ (List.mem_append_right _ (List.mem_append_right _ (List.mem_append_right _ (List.mem_append_left _ (List.mem_of_getElem? (i := 32) rfl))))))
theorem wm_193 : Cond.instanceMethod y_N_callsForReady ∈ WT := (List.mem_append_right _ (List.mem_append_right _ (List.mem_append_right _ (List.mem_append_right _ (List.mem_append_left _ (List.mem_of_getElem? (i := 33) rfl))))))
theorem wm_194 : Cond.code y_N_callsForReady prog_2_method_22_code 5 (some .boolean) ∈ WT := (List.mem_append_right _ (List.mem_append_right _ (List.mem_append_right _ (List.mem_append_right _ (List.mem_append_left _ (List.mem_of_getElem? (i := 34) rfl))))))
theorem wm_195 : Cond.methodLink R_N 129 y_N_isAcceptable ∈ WT := (List.mem_append_right _ (List.mem_append_right _ (List.mem_append_right _ (List.mem_append_right _ (List.mem_append_left _ (List.mem_of_getElem? (i := 35) rfl))))))
theorem wm_196 : Cond.instanceMethod y_N_isAcceptable ∈ WT := (List.mem_append_right _ (List.mem_append_right _ (List.mem_append_right _ (List.mem_append_right _ (List.mem_append_left _ (List.mem_of_getElem? (i := 36) rfl))))))
theorem wm_197 : Cond.code y_N_isAcceptable prog_2_method_23_code 4 (some .boolean) ∈ WT := (List.mem_append_right _ (List.mem_append_right _ (List.mem_append_right _ (List.mem_append_right _ (List.mem_append_left _ (List.mem_of_getElem? (i := 37) rfl))))))
theorem wm_198 : Cond.methodLink R_N 132 y_N_applyWhatIsValid ∈ WT := (List.mem_append_right _ (List.mem_append_right _ (List.mem_append_right _ (List.mem_append_right _ (List.mem_append_left _ (List.mem_of_getElem? (i := 38) rfl))))))
theorem wm_199 : Cond.instanceMethod y_N_applyWhatIsValid ∈ WT := (List.mem_append_right _ (List.mem_append_right _ (List.mem_append_right _ (List.mem_append_right _ (List.mem_append_left _ (List.mem_of_getElem? (i := 39) rfl))))))
theorem wm_200 : Cond.code y_N_applyWhatIsValid prog_2_method_25_code 4 (some .int) ∈ WT := (List.mem_append_right _ (List.mem_append_right _ (List.mem_append_right _ (List.mem_append_right _ (List.mem_append_right _ (List.mem_append_left _ (List.mem_of_getElem? (i := 0) rfl)))))))
theorem wm_201 : Cond.methodLink R_N 140 y_N_leastPayer ∈ WT := (List.mem_append_right _ (List.mem_append_right _ (List.mem_append_right _ (List.mem_append_right _ (List.mem_append_right _ (List.mem_append_left _ (List.mem_of_getElem? (i := 1) rfl)))))))
theorem wm_202 : Cond.instanceMethod y_N_leastPayer ∈ WT := (List.mem_append_right _ (List.mem_append_right _ (List.mem_append_right _ (List.mem_append_right _ (List.mem_append_right _ (List.mem_append_left _ (List.mem_of_getElem? (i := 2) rfl)))))))
theorem wm_203 : Cond.code y_N_leastPayer prog_2_method_26_code 2 (some .int) ∈ WT := (List.mem_append_right _ (List.mem_append_right _ (List.mem_append_right _ (List.mem_append_right _ (List.mem_append_right _ (List.mem_append_left _ (List.mem_of_getElem? (i := 3) rfl)))))))
theorem wm_204 : Cond.methodLink R_N 147 y_N_isValid ∈ WT := (List.mem_append_right _ (List.mem_append_right _ (List.mem_append_right _ (List.mem_append_right _ (List.mem_append_right _ (List.mem_append_left _ (List.mem_of_getElem? (i := 4) rfl)))))))
theorem wm_205 : Cond.instanceMethod y_N_isValid ∈ WT := (List.mem_append_right _ (List.mem_append_right _ (List.mem_append_right _ (List.mem_append_right _ (List.mem_append_right _ (List.mem_append_left _ (List.mem_of_getElem? (i := 5) rfl)))))))
theorem wm_206 : Cond.code y_N_isValid prog_2_method_27_code 5 (some .boolean) ∈ WT := (List.mem_append_right _ (List.mem_append_right _ (List.mem_append_right _ (List.mem_append_right _ (List.mem_append_right _ (List.mem_append_left _ (List.mem_of_getElem? (i := 6) rfl)))))))
theorem wm_207 : Cond.methodLink R_N 154 y_P_need ∈ WT := (List.mem_append_right _ (List.mem_append_right _ (List.mem_append_right _ (List.mem_append_right _ (List.mem_append_right _ (List.mem_append_left _ (List.mem_of_getElem? (i := 7) rfl)))))))
theorem wm_208 : Cond.methodLink R_N 143 y_N_pay ∈ WT := (List.mem_append_right _ (List.mem_append_right _ (List.mem_append_right _ (List.mem_append_right _ (List.mem_append_right _ (List.mem_append_left _ (List.mem_of_getElem? (i := 8) rfl)))))))
theorem wm_209 : Cond.instanceMethod y_N_pay ∈ WT := (List.mem_append_right _ (List.mem_append_right _ (List.mem_append_right _ (List.mem_append_right _ (List.mem_append_right _ (List.mem_append_left _ (List.mem_of_getElem? (i := 9) rfl)))))))
theorem wm_210 : Cond.code y_N_pay prog_2_method_28_code 4 none ∈ WT := (List.mem_append_right _ (List.mem_append_right _ (List.mem_append_right _ (List.mem_append_right _ (List.mem_append_right _ (List.mem_append_left _ (List.mem_of_getElem? (i := 10) rfl)))))))
theorem wm_211 : Cond.methodLink R_L 38 y_E_carry ∈ WT := (List.mem_append_right _ (List.mem_append_right _ (List.mem_append_right _ (List.mem_append_right _ (List.mem_append_right _ (List.mem_append_left _ (List.mem_of_getElem? (i := 11) rfl)))))))
theorem wm_212 : Cond.instanceMethod y_E_carry ∈ WT := (List.mem_append_right _ (List.mem_append_right _ (List.mem_append_right _ (List.mem_append_right _ (List.mem_append_right _ (List.mem_append_left _ (List.mem_of_getElem? (i := 12) rfl)))))))
theorem wm_213 : Cond.selects R_E y_E_carry y_E_carry ∈ WT := (List.mem_append_right _ (List.mem_append_right _ (List.mem_append_right _ (List.mem_append_right _ (List.mem_append_right _ (List.mem_append_left _ (List.mem_of_getElem? (i := 13) rfl)))))))
theorem wm_214 : Cond.code y_E_carry prog_1_method_5_code 7 (some .int) ∈ WT := (List.mem_append_right _ (List.mem_append_right _ (List.mem_append_right _ (List.mem_append_right _ (List.mem_append_right _ (List.mem_append_left _ (List.mem_of_getElem? (i := 14) rfl)))))))
theorem wm_215 : Cond.methodLink R_E 65 y_N_said ∈ WT := (List.mem_append_right _ (List.mem_append_right _ (List.mem_append_right _ (List.mem_append_right _ (List.mem_append_right _ (List.mem_append_left _ (List.mem_of_getElem? (i := 15) rfl)))))))
theorem wm_216 : Cond.instanceMethod y_N_said ∈ WT := (List.mem_append_right _ (List.mem_append_right _ (List.mem_append_right _ (List.mem_append_right _ (List.mem_append_right _ (List.mem_append_left _ (List.mem_of_getElem? (i := 16) rfl)))))))
theorem wm_217 : Cond.selects R_N y_N_said y_N_said ∈ WT := (List.mem_append_right _ (List.mem_append_right _ (List.mem_append_right _ (List.mem_append_right _ (List.mem_append_right _ (List.mem_append_left _ (List.mem_of_getElem? (i := 17) rfl)))))))
theorem wm_218 : Cond.code y_N_said prog_2_method_3_code 2 (some .long) ∈ WT := (List.mem_append_right _ (List.mem_append_right _ (List.mem_append_right _ (List.mem_append_right _ (List.mem_append_right _ (List.mem_append_left _ (List.mem_of_getElem? (i := 18) rfl)))))))
theorem wm_219 : Cond.constantLong R_E 69 (-1) ∈ WT := (List.mem_append_right _ (List.mem_append_right _ (List.mem_append_right _ (List.mem_append_right _ (List.mem_append_right _ (List.mem_append_left _ (List.mem_of_getElem? (i := 19) rfl)))))))
theorem wm_220 : Cond.methodLink R_L 43 y_E_pump ∈ WT := (List.mem_append_right _ (List.mem_append_right _ (List.mem_append_right _ (List.mem_append_right _ (List.mem_append_right _ (List.mem_append_left _ (List.mem_of_getElem? (i := 20) rfl)))))))
theorem wm_221 : Cond.instanceMethod y_E_pump ∈ WT := (List.mem_append_right _ (List.mem_append_right _ (List.mem_append_right _ (List.mem_append_right _ (List.mem_append_right _ (List.mem_append_left _ (List.mem_of_getElem? (i := 21) rfl)))))))
theorem wm_222 : Cond.selects R_E y_E_pump y_E_pump ∈ WT := (List.mem_append_right _ (List.mem_append_right _ (List.mem_append_right _ (List.mem_append_right _ (List.mem_append_right _ (List.mem_append_left _ (List.mem_of_getElem? (i := 22) rfl)))))))
theorem wm_223 : Cond.code y_E_pump prog_1_method_6_code 6 (some .int) ∈ WT := (List.mem_append_right _ (List.mem_append_right _ (List.mem_append_right _ (List.mem_append_right _ (List.mem_append_right _ (List.mem_append_left _ (List.mem_of_getElem? (i := 23) rfl)))))))
theorem wm_224 : Cond.methodLink R_E 71 y_E_firstPending ∈ WT := (List.mem_append_right _ (List.mem_append_right _ (List.mem_append_right _ (List.mem_append_right _ (List.mem_append_right _ (List.mem_append_left _ (List.mem_of_getElem? (i := 24) rfl)))))))
theorem wm_225 : Cond.instanceMethod y_E_firstPending ∈ WT := (List.mem_append_right _ (List.mem_append_right _ (List.mem_append_right _ (List.mem_append_right _ (List.mem_append_right _ (List.mem_append_left _ (List.mem_of_getElem? (i := 25) rfl)))))))
theorem wm_226 : Cond.code y_E_firstPending prog_1_method_24_code 5 (some .int) ∈ WT := (List.mem_append_right _ (List.mem_append_right _ (List.mem_append_right _ (List.mem_append_right _ (List.mem_append_right _ (List.mem_append_left _ (List.mem_of_getElem? (i := 26) rfl)))))))
theorem wm_227 : Cond.methodLink R_E 75 y_E_takers ∈ WT := (List.mem_append_right _ (List.mem_append_right _ (List.mem_append_right _ (List.mem_append_right _ (List.mem_append_right _ (List.mem_append_left _ (List.mem_of_getElem? (i := 27) rfl)))))))
theorem wm_228 : Cond.instanceMethod y_E_takers ∈ WT := (List.mem_append_right _ (List.mem_append_right _ (List.mem_append_right _ (List.mem_append_right _ (List.mem_append_right _ (List.mem_append_left _ (List.mem_of_getElem? (i := 28) rfl)))))))
theorem wm_229 : Cond.code y_E_takers prog_1_method_25_code 7 (some .int) ∈ WT := (List.mem_append_right _ (List.mem_append_right _ (List.mem_append_right _ (List.mem_append_right _ (List.mem_append_right _ (List.mem_append_left _ (List.mem_of_getElem? (i := 29) rfl)))))))
theorem wm_230 : Cond.methodLink R_E 125 y_N_wouldTake ∈ WT := (List.mem_append_right _ (List.mem_append_right _ (List.mem_append_right _ (List.mem_append_right _ (List.mem_append_right _ (List.mem_append_left _ (List.mem_of_getElem? (i := 30) rfl)))))))
theorem wm_231 : Cond.instanceMethod y_N_wouldTake ∈ WT := (List.mem_append_right _ (List.mem_append_right _ (List.mem_append_right _ (List.mem_append_right _ (List.mem_append_right _ (List.mem_append_left _ (List.mem_of_getElem? (i := 31) rfl)))))))
theorem wm_232 : Cond.selects R_N y_N_wouldTake y_N_wouldTake ∈ WT := (List.mem_append_right _ (List.mem_append_right _ (List.mem_append_right _ (List.mem_append_right _ (List.mem_append_right _ (List.mem_append_left _ (List.mem_of_getElem? (i := 32) rfl)))))))
theorem wm_233 : Cond.code y_N_wouldTake prog_2_method_15_code 5 (some .boolean) ∈ WT := (List.mem_append_right _ (List.mem_append_right _ (List.mem_append_right _ (List.mem_append_right _ (List.mem_append_right _ (List.mem_append_left _ (List.mem_of_getElem? (i := 33) rfl)))))))
theorem wm_234 : Cond.methodLink R_L 48 y_E_pending ∈ WT := (List.mem_append_right _ (List.mem_append_right _ (List.mem_append_right _ (List.mem_append_right _ (List.mem_append_right _ (List.mem_append_left _ (List.mem_of_getElem? (i := 34) rfl)))))))
theorem wm_235 : Cond.instanceMethod y_E_pending ∈ WT := (List.mem_append_right _ (List.mem_append_right _ (List.mem_append_right _ (List.mem_append_right _ (List.mem_append_right _ (List.mem_append_left _ (List.mem_of_getElem? (i := 35) rfl)))))))
theorem wm_236 : Cond.selects R_E y_E_pending y_E_pending ∈ WT := (List.mem_append_right _ (List.mem_append_right _ (List.mem_append_right _ (List.mem_append_right _ (List.mem_append_right _ (List.mem_append_left _ (List.mem_of_getElem? (i := 36) rfl)))))))
theorem wm_237 : Cond.code y_E_pending prog_1_method_7_code 4 (some .int) ∈ WT := (List.mem_append_right _ (List.mem_append_right _ (List.mem_append_right _ (List.mem_append_right _ (List.mem_append_right _ (List.mem_append_left _ (List.mem_of_getElem? (i := 37) rfl)))))))
theorem wm_238 : Cond.methodLink R_E 78 y_JI_bitCount ∈ WT := (List.mem_append_right _ (List.mem_append_right _ (List.mem_append_right _ (List.mem_append_right _ (List.mem_append_right _ (List.mem_append_left _ (List.mem_of_getElem? (i := 38) rfl)))))))
theorem wm_239 : Cond.static y_JI_bitCount ∈ WT := (List.mem_append_right _ (List.mem_append_right _ (List.mem_append_right _ (List.mem_append_right _ (List.mem_append_right _ (List.mem_append_left _ (List.mem_of_getElem? (i := 39) rfl)))))))
theorem wm_240 : Cond.code y_JI_bitCount prog_7_method_49_code 1 (some .int) ∈ WT := (List.mem_append_right _ (List.mem_append_right _ (List.mem_append_right _ (List.mem_append_right _ (List.mem_append_right _ (List.mem_append_right _ (List.mem_append_left _ (List.mem_of_getElem? (i := 0) rfl))))))))
theorem wm_241 : Cond.constant "java/lang/Integer" 265 (1431655765) ∈ WT := (List.mem_append_right _ (List.mem_append_right _ (List.mem_append_right _ (List.mem_append_right _ (List.mem_append_right _ (List.mem_append_right _ (List.mem_append_left _ (List.mem_of_getElem? (i := 1) rfl))))))))
theorem wm_242 : Cond.constant "java/lang/Integer" 266 (858993459) ∈ WT := (List.mem_append_right _ (List.mem_append_right _ (List.mem_append_right _ (List.mem_append_right _ (List.mem_append_right _ (List.mem_append_right _ (List.mem_append_left _ (List.mem_of_getElem? (i := 2) rfl))))))))
theorem wm_243 : Cond.constant "java/lang/Integer" 267 (252645135) ∈ WT := (List.mem_append_right _ (List.mem_append_right _ (List.mem_append_right _ (List.mem_append_right _ (List.mem_append_right _ (List.mem_append_right _ (List.mem_append_left _ (List.mem_of_getElem? (i := 3) rfl))))))))
theorem wm_244 : Cond.methodLink R_L 53 y_E_crash ∈ WT := (List.mem_append_right _ (List.mem_append_right _ (List.mem_append_right _ (List.mem_append_right _ (List.mem_append_right _ (List.mem_append_right _ (List.mem_append_left _ (List.mem_of_getElem? (i := 4) rfl))))))))
theorem wm_245 : Cond.instanceMethod y_E_crash ∈ WT := (List.mem_append_right _ (List.mem_append_right _ (List.mem_append_right _ (List.mem_append_right _ (List.mem_append_right _ (List.mem_append_right _ (List.mem_append_left _ (List.mem_of_getElem? (i := 5) rfl))))))))
theorem wm_246 : Cond.selects R_E y_E_crash y_E_crash ∈ WT := (List.mem_append_right _ (List.mem_append_right _ (List.mem_append_right _ (List.mem_append_right _ (List.mem_append_right _ (List.mem_append_right _ (List.mem_append_left _ (List.mem_of_getElem? (i := 6) rfl))))))))
theorem wm_247 : Cond.code y_E_crash prog_1_method_8_code 2 (some .boolean) ∈ WT := (List.mem_append_right _ (List.mem_append_right _ (List.mem_append_right _ (List.mem_append_right _ (List.mem_append_right _ (List.mem_append_right _ (List.mem_append_left _ (List.mem_of_getElem? (i := 7) rfl))))))))
theorem wm_248 : Cond.methodLink R_E 83 y_N_goDown ∈ WT := (List.mem_append_right _ (List.mem_append_right _ (List.mem_append_right _ (List.mem_append_right _ (List.mem_append_right _ (List.mem_append_right _ (List.mem_append_left _ (List.mem_of_getElem? (i := 8) rfl))))))))
theorem wm_249 : Cond.methodLink R_L 57 y_E_restart ∈ WT := (List.mem_append_right _ (List.mem_append_right _ (List.mem_append_right _ (List.mem_append_right _ (List.mem_append_right _ (List.mem_append_right _ (List.mem_append_left _ (List.mem_of_getElem? (i := 9) rfl))))))))
theorem wm_250 : Cond.instanceMethod y_E_restart ∈ WT := (List.mem_append_right _ (List.mem_append_right _ (List.mem_append_right _ (List.mem_append_right _ (List.mem_append_right _ (List.mem_append_right _ (List.mem_append_left _ (List.mem_of_getElem? (i := 10) rfl))))))))
theorem wm_251 : Cond.selects R_E y_E_restart y_E_restart ∈ WT := (List.mem_append_right _ (List.mem_append_right _ (List.mem_append_right _ (List.mem_append_right _ (List.mem_append_right _ (List.mem_append_right _ (List.mem_append_left _ (List.mem_of_getElem? (i := 11) rfl))))))))
theorem wm_252 : Cond.code y_E_restart prog_1_method_9_code 2 (some .boolean) ∈ WT := (List.mem_append_right _ (List.mem_append_right _ (List.mem_append_right _ (List.mem_append_right _ (List.mem_append_right _ (List.mem_append_right _ (List.mem_append_left _ (List.mem_of_getElem? (i := 12) rfl))))))))
theorem wm_253 : Cond.methodLink R_E 86 y_N_comeUp ∈ WT := (List.mem_append_right _ (List.mem_append_right _ (List.mem_append_right _ (List.mem_append_right _ (List.mem_append_right _ (List.mem_append_right _ (List.mem_append_left _ (List.mem_of_getElem? (i := 13) rfl))))))))
theorem wm_254 : Cond.instanceMethod y_N_comeUp ∈ WT := (List.mem_append_right _ (List.mem_append_right _ (List.mem_append_right _ (List.mem_append_right _ (List.mem_append_right _ (List.mem_append_right _ (List.mem_append_left _ (List.mem_of_getElem? (i := 14) rfl))))))))
theorem wm_255 : Cond.selects R_N y_N_comeUp y_N_comeUp ∈ WT := (List.mem_append_right _ (List.mem_append_right _ (List.mem_append_right _ (List.mem_append_right _ (List.mem_append_right _ (List.mem_append_right _ (List.mem_append_left _ (List.mem_of_getElem? (i := 15) rfl))))))))
theorem wm_256 : Cond.code y_N_comeUp prog_2_method_9_code 1 none ∈ WT := (List.mem_append_right _ (List.mem_append_right _ (List.mem_append_right _ (List.mem_append_right _ (List.mem_append_right _ (List.mem_append_right _ (List.mem_append_left _ (List.mem_of_getElem? (i := 16) rfl))))))))
theorem wm_257 : Cond.methodLink R_L 61 y_E_fuse ∈ WT := (List.mem_append_right _ (List.mem_append_right _ (List.mem_append_right _ (List.mem_append_right _ (List.mem_append_right _ (List.mem_append_right _ (List.mem_append_left _ (List.mem_of_getElem? (i := 17) rfl))))))))
theorem wm_258 : Cond.instanceMethod y_E_fuse ∈ WT := (List.mem_append_right _ (List.mem_append_right _ (List.mem_append_right _ (List.mem_append_right _ (List.mem_append_right _ (List.mem_append_right _ (List.mem_append_left _ (List.mem_of_getElem? (i := 18) rfl))))))))
theorem wm_259 : Cond.selects R_E y_E_fuse y_E_fuse ∈ WT := (List.mem_append_right _ (List.mem_append_right _ (List.mem_append_right _ (List.mem_append_right _ (List.mem_append_right _ (List.mem_append_right _ (List.mem_append_left _ (List.mem_of_getElem? (i := 19) rfl))))))))
theorem wm_260 : Cond.code y_E_fuse prog_1_method_10_code 3 (some .boolean) ∈ WT := (List.mem_append_right _ (List.mem_append_right _ (List.mem_append_right _ (List.mem_append_right _ (List.mem_append_right _ (List.mem_append_right _ (List.mem_append_left _ (List.mem_of_getElem? (i := 20) rfl))))))))
theorem wm_261 : Cond.methodLink R_E 89 y_N_setFuse ∈ WT := (List.mem_append_right _ (List.mem_append_right _ (List.mem_append_right _ (List.mem_append_right _ (List.mem_append_right _ (List.mem_append_right _ (List.mem_append_left _ (List.mem_of_getElem? (i := 21) rfl))))))))
theorem wm_262 : Cond.instanceMethod y_N_setFuse ∈ WT := (List.mem_append_right _ (List.mem_append_right _ (List.mem_append_right _ (List.mem_append_right _ (List.mem_append_right _ (List.mem_append_right _ (List.mem_append_left _ (List.mem_of_getElem? (i := 22) rfl))))))))
theorem wm_263 : Cond.selects R_N y_N_setFuse y_N_setFuse ∈ WT := (List.mem_append_right _ (List.mem_append_right _ (List.mem_append_right _ (List.mem_append_right _ (List.mem_append_right _ (List.mem_append_right _ (List.mem_append_left _ (List.mem_of_getElem? (i := 23) rfl))))))))
theorem wm_264 : Cond.code y_N_setFuse prog_2_method_10_code 2 none ∈ WT := (List.mem_append_right _ (List.mem_append_right _ (List.mem_append_right _ (List.mem_append_right _ (List.mem_append_right _ (List.mem_append_right _ (List.mem_append_left _ (List.mem_of_getElem? (i := 24) rfl))))))))
theorem wm_265 : Cond.methodLink R_L 66 y_E_mark ∈ WT := (List.mem_append_right _ (List.mem_append_right _ (List.mem_append_right _ (List.mem_append_right _ (List.mem_append_right _ (List.mem_append_right _ (List.mem_append_left _ (List.mem_of_getElem? (i := 25) rfl))))))))
theorem wm_266 : Cond.instanceMethod y_E_mark ∈ WT := (List.mem_append_right _ (List.mem_append_right _ (List.mem_append_right _ (List.mem_append_right _ (List.mem_append_right _ (List.mem_append_right _ (List.mem_append_left _ (List.mem_of_getElem? (i := 26) rfl))))))))
theorem wm_267 : Cond.selects R_E y_E_mark y_E_mark ∈ WT := (List.mem_append_right _ (List.mem_append_right _ (List.mem_append_right _ (List.mem_append_right _ (List.mem_append_right _ (List.mem_append_right _ (List.mem_append_left _ (List.mem_of_getElem? (i := 27) rfl))))))))
theorem wm_268 : Cond.code y_E_mark prog_1_method_11_code 2 (some .int) ∈ WT := (List.mem_append_right _ (List.mem_append_right _ (List.mem_append_right _ (List.mem_append_right _ (List.mem_append_right _ (List.mem_append_right _ (List.mem_append_left _ (List.mem_of_getElem? (i := 28) rfl))))))))
theorem wm_269 : Cond.methodLink R_E 93 y_N_writeMark ∈ WT := (List.mem_append_right _ (List.mem_append_right _ (List.mem_append_right _ (List.mem_append_right _ (List.mem_append_right _ (List.mem_append_right _ (List.mem_append_left _ (List.mem_of_getElem? (i := 29) rfl))))))))
theorem wm_270 : Cond.instanceMethod y_N_writeMark ∈ WT := (List.mem_append_right _ (List.mem_append_right _ (List.mem_append_right _ (List.mem_append_right _ (List.mem_append_right _ (List.mem_append_right _ (List.mem_append_left _ (List.mem_of_getElem? (i := 30) rfl))))))))
theorem wm_271 : Cond.selects R_N y_N_writeMark y_N_writeMark ∈ WT := (List.mem_append_right _ (List.mem_append_right _ (List.mem_append_right _ (List.mem_append_right _ (List.mem_append_right _ (List.mem_append_right _ (List.mem_append_left _ (List.mem_of_getElem? (i := 31) rfl))))))))
theorem wm_272 : Cond.code y_N_writeMark prog_2_method_13_code 4 (some .int) ∈ WT := (List.mem_append_right _ (List.mem_append_right _ (List.mem_append_right _ (List.mem_append_right _ (List.mem_append_right _ (List.mem_append_right _ (List.mem_append_left _ (List.mem_of_getElem? (i := 32) rfl))))))))
theorem wm_273 : Cond.methodLink R_L 70 y_E_sent ∈ WT := (List.mem_append_right _ (List.mem_append_right _ (List.mem_append_right _ (List.mem_append_right _ (List.mem_append_right _ (List.mem_append_right _ (List.mem_append_left _ (List.mem_of_getElem? (i := 33) rfl))))))))
theorem wm_274 : Cond.instanceMethod y_E_sent ∈ WT := (List.mem_append_right _ (List.mem_append_right _ (List.mem_append_right _ (List.mem_append_right _ (List.mem_append_right _ (List.mem_append_right _ (List.mem_append_left _ (List.mem_of_getElem? (i := 34) rfl))))))))
theorem wm_275 : Cond.selects R_E y_E_sent y_E_sent ∈ WT := (List.mem_append_right _ (List.mem_append_right _ (List.mem_append_right _ (List.mem_append_right _ (List.mem_append_right _ (List.mem_append_right _ (List.mem_append_left _ (List.mem_of_getElem? (i := 35) rfl))))))))
theorem wm_276 : Cond.code y_E_sent prog_1_method_12_code 6 (some .long) ∈ WT := (List.mem_append_right _ (List.mem_append_right _ (List.mem_append_right _ (List.mem_append_right _ (List.mem_append_right _ (List.mem_append_right _ (List.mem_append_left _ (List.mem_of_getElem? (i := 36) rfl))))))))
theorem wm_277 : Cond.methodLink R_L 75 y_E_heard ∈ WT := (List.mem_append_right _ (List.mem_append_right _ (List.mem_append_right _ (List.mem_append_right _ (List.mem_append_right _ (List.mem_append_right _ (List.mem_append_left _ (List.mem_of_getElem? (i := 37) rfl))))))))
theorem wm_278 : Cond.instanceMethod y_E_heard ∈ WT := (List.mem_append_right _ (List.mem_append_right _ (List.mem_append_right _ (List.mem_append_right _ (List.mem_append_right _ (List.mem_append_right _ (List.mem_append_left _ (List.mem_of_getElem? (i := 38) rfl))))))))
theorem wm_279 : Cond.selects R_E y_E_heard y_E_heard ∈ WT := (List.mem_append_right _ (List.mem_append_right _ (List.mem_append_right _ (List.mem_append_right _ (List.mem_append_right _ (List.mem_append_right _ (List.mem_append_left _ (List.mem_of_getElem? (i := 39) rfl))))))))
theorem wm_280 : Cond.code y_E_heard prog_1_method_13_code 6 (some .int) ∈ WT := (List.mem_append_right _ (List.mem_append_right _ (List.mem_append_right _ (List.mem_append_right _ (List.mem_append_right _ (List.mem_append_right _ (List.mem_append_right _ (List.mem_append_left _ (List.mem_of_getElem? (i := 0) rfl)))))))))
theorem wm_281 : Cond.methodLink R_E 96 y_N_countTellers ∈ WT := (List.mem_append_right _ (List.mem_append_right _ (List.mem_append_right _ (List.mem_append_right _ (List.mem_append_right _ (List.mem_append_right _ (List.mem_append_right _ (List.mem_append_left _ (List.mem_of_getElem? (i := 1) rfl)))))))))
theorem wm_282 : Cond.instanceMethod y_N_countTellers ∈ WT := (List.mem_append_right _ (List.mem_append_right _ (List.mem_append_right _ (List.mem_append_right _ (List.mem_append_right _ (List.mem_append_right _ (List.mem_append_right _ (List.mem_append_left _ (List.mem_of_getElem? (i := 2) rfl)))))))))
theorem wm_283 : Cond.selects R_N y_N_countTellers y_N_countTellers ∈ WT := (List.mem_append_right _ (List.mem_append_right _ (List.mem_append_right _ (List.mem_append_right _ (List.mem_append_right _ (List.mem_append_right _ (List.mem_append_right _ (List.mem_append_left _ (List.mem_of_getElem? (i := 3) rfl)))))))))
theorem wm_284 : Cond.code y_N_countTellers prog_2_method_17_code 4 (some .int) ∈ WT := (List.mem_append_right _ (List.mem_append_right _ (List.mem_append_right _ (List.mem_append_right _ (List.mem_append_right _ (List.mem_append_right _ (List.mem_append_right _ (List.mem_append_left _ (List.mem_of_getElem? (i := 4) rfl)))))))))
theorem wm_285 : Cond.methodLink R_L 80 y_E_accepted ∈ WT := (List.mem_append_right _ (List.mem_append_right _ (List.mem_append_right _ (List.mem_append_right _ (List.mem_append_right _ (List.mem_append_right _ (List.mem_append_right _ (List.mem_append_left _ (List.mem_of_getElem? (i := 5) rfl)))))))))
theorem wm_286 : Cond.instanceMethod y_E_accepted ∈ WT := (List.mem_append_right _ (List.mem_append_right _ (List.mem_append_right _ (List.mem_append_right _ (List.mem_append_right _ (List.mem_append_right _ (List.mem_append_right _ (List.mem_append_left _ (List.mem_of_getElem? (i := 6) rfl)))))))))
theorem wm_287 : Cond.selects R_E y_E_accepted y_E_accepted ∈ WT := (List.mem_append_right _ (List.mem_append_right _ (List.mem_append_right _ (List.mem_append_right _ (List.mem_append_right _ (List.mem_append_right _ (List.mem_append_right _ (List.mem_append_left _ (List.mem_of_getElem? (i := 7) rfl)))))))))
theorem wm_288 : Cond.code y_E_accepted prog_1_method_14_code 5 (some .long) ∈ WT := (List.mem_append_right _ (List.mem_append_right _ (List.mem_append_right _ (List.mem_append_right _ (List.mem_append_right _ (List.mem_append_right _ (List.mem_append_right _ (List.mem_append_left _ (List.mem_of_getElem? (i := 8) rfl)))))))))
theorem wm_289 : Cond.methodLink R_E 99 y_T_instance ∈ WT := (List.mem_append_right _ (List.mem_append_right _ (List.mem_append_right _ (List.mem_append_right _ (List.mem_append_right _ (List.mem_append_right _ (List.mem_append_right _ (List.mem_append_left _ (List.mem_of_getElem? (i := 9) rfl)))))))))
theorem wm_290 : Cond.methodLink R_E 104 y_N_acceptedFor ∈ WT := (List.mem_append_right _ (List.mem_append_right _ (List.mem_append_right _ (List.mem_append_right _ (List.mem_append_right _ (List.mem_append_right _ (List.mem_append_right _ (List.mem_append_left _ (List.mem_of_getElem? (i := 10) rfl)))))))))
theorem wm_291 : Cond.instanceMethod y_N_acceptedFor ∈ WT := (List.mem_append_right _ (List.mem_append_right _ (List.mem_append_right _ (List.mem_append_right _ (List.mem_append_right _ (List.mem_append_right _ (List.mem_append_right _ (List.mem_append_left _ (List.mem_of_getElem? (i := 11) rfl)))))))))
theorem wm_292 : Cond.selects R_N y_N_acceptedFor y_N_acceptedFor ∈ WT := (List.mem_append_right _ (List.mem_append_right _ (List.mem_append_right _ (List.mem_append_right _ (List.mem_append_right _ (List.mem_append_right _ (List.mem_append_right _ (List.mem_append_left _ (List.mem_of_getElem? (i := 12) rfl)))))))))
theorem wm_293 : Cond.code y_N_acceptedFor prog_2_method_4_code 2 (some .long) ∈ WT := (List.mem_append_right _ (List.mem_append_right _ (List.mem_append_right _ (List.mem_append_right _ (List.mem_append_right _ (List.mem_append_right _ (List.mem_append_right _ (List.mem_append_left _ (List.mem_of_getElem? (i := 13) rfl)))))))))
theorem wm_294 : Cond.methodLink R_L 85 y_E_applied ∈ WT := (List.mem_append_right _ (List.mem_append_right _ (List.mem_append_right _ (List.mem_append_right _ (List.mem_append_right _ (List.mem_append_right _ (List.mem_append_right _ (List.mem_append_left _ (List.mem_of_getElem? (i := 14) rfl)))))))))
theorem wm_295 : Cond.instanceMethod y_E_applied ∈ WT := (List.mem_append_right _ (List.mem_append_right _ (List.mem_append_right _ (List.mem_append_right _ (List.mem_append_right _ (List.mem_append_right _ (List.mem_append_right _ (List.mem_append_left _ (List.mem_of_getElem? (i := 15) rfl)))))))))
theorem wm_296 : Cond.selects R_E y_E_applied y_E_applied ∈ WT := (List.mem_append_right _ (List.mem_append_right _ (List.mem_append_right _ (List.mem_append_right _ (List.mem_append_right _ (List.mem_append_right _ (List.mem_append_right _ (List.mem_append_left _ (List.mem_of_getElem? (i := 16) rfl)))))))))
theorem wm_297 : Cond.code y_E_applied prog_1_method_15_code 3 (some .int) ∈ WT := (List.mem_append_right _ (List.mem_append_right _ (List.mem_append_right _ (List.mem_append_right _ (List.mem_append_right _ (List.mem_append_right _ (List.mem_append_right _ (List.mem_append_left _ (List.mem_of_getElem? (i := 17) rfl)))))))))
theorem wm_298 : Cond.methodLink R_E 107 y_N_appliedOf ∈ WT := (List.mem_append_right _ (List.mem_append_right _ (List.mem_append_right _ (List.mem_append_right _ (List.mem_append_right _ (List.mem_append_right _ (List.mem_append_right _ (List.mem_append_left _ (List.mem_of_getElem? (i := 18) rfl)))))))))
theorem wm_299 : Cond.instanceMethod y_N_appliedOf ∈ WT := (List.mem_append_right _ (List.mem_append_right _ (List.mem_append_right _ (List.mem_append_right _ (List.mem_append_right _ (List.mem_append_right _ (List.mem_append_right _ (List.mem_append_left _ (List.mem_of_getElem? (i := 19) rfl)))))))))
theorem wm_300 : Cond.selects R_N y_N_appliedOf y_N_appliedOf ∈ WT := (List.mem_append_right _ (List.mem_append_right _ (List.mem_append_right _ (List.mem_append_right _ (List.mem_append_right _ (List.mem_append_right _ (List.mem_append_right _ (List.mem_append_left _ (List.mem_of_getElem? (i := 20) rfl)))))))))
theorem wm_301 : Cond.code y_N_appliedOf prog_2_method_5_code 2 (some .int) ∈ WT := (List.mem_append_right _ (List.mem_append_right _ (List.mem_append_right _ (List.mem_append_right _ (List.mem_append_right _ (List.mem_append_right _ (List.mem_append_right _ (List.mem_append_left _ (List.mem_of_getElem? (i := 21) rfl)))))))))
theorem wm_302 : Cond.methodLink R_L 90 y_E_balance ∈ WT := (List.mem_append_right _ (List.mem_append_right _ (List.mem_append_right _ (List.mem_append_right _ (List.mem_append_right _ (List.mem_append_right _ (List.mem_append_right _ (List.mem_append_left _ (List.mem_of_getElem? (i := 22) rfl)))))))))
theorem wm_303 : Cond.instanceMethod y_E_balance ∈ WT := (List.mem_append_right _ (List.mem_append_right _ (List.mem_append_right _ (List.mem_append_right _ (List.mem_append_right _ (List.mem_append_right _ (List.mem_append_right _ (List.mem_append_left _ (List.mem_of_getElem? (i := 23) rfl)))))))))
theorem wm_304 : Cond.selects R_E y_E_balance y_E_balance ∈ WT := (List.mem_append_right _ (List.mem_append_right _ (List.mem_append_right _ (List.mem_append_right _ (List.mem_append_right _ (List.mem_append_right _ (List.mem_append_right _ (List.mem_append_left _ (List.mem_of_getElem? (i := 24) rfl)))))))))
theorem wm_305 : Cond.code y_E_balance prog_1_method_16_code 3 (some .long) ∈ WT := (List.mem_append_right _ (List.mem_append_right _ (List.mem_append_right _ (List.mem_append_right _ (List.mem_append_right _ (List.mem_append_right _ (List.mem_append_right _ (List.mem_append_left _ (List.mem_of_getElem? (i := 25) rfl)))))))))
theorem wm_306 : Cond.methodLink R_E 110 y_N_balanceOf ∈ WT := (List.mem_append_right _ (List.mem_append_right _ (List.mem_append_right _ (List.mem_append_right _ (List.mem_append_right _ (List.mem_append_right _ (List.mem_append_right _ (List.mem_append_left _ (List.mem_of_getElem? (i := 26) rfl)))))))))
theorem wm_307 : Cond.instanceMethod y_N_balanceOf ∈ WT := (List.mem_append_right _ (List.mem_append_right _ (List.mem_append_right _ (List.mem_append_right _ (List.mem_append_right _ (List.mem_append_right _ (List.mem_append_right _ (List.mem_append_left _ (List.mem_of_getElem? (i := 27) rfl)))))))))
theorem wm_308 : Cond.selects R_N y_N_balanceOf y_N_balanceOf ∈ WT := (List.mem_append_right _ (List.mem_append_right _ (List.mem_append_right _ (List.mem_append_right _ (List.mem_append_right _ (List.mem_append_right _ (List.mem_append_right _ (List.mem_append_left _ (List.mem_of_getElem? (i := 28) rfl)))))))))
theorem wm_309 : Cond.code y_N_balanceOf prog_2_method_6_code 2 (some .long) ∈ WT := (List.mem_append_right _ (List.mem_append_right _ (List.mem_append_right _ (List.mem_append_right _ (List.mem_append_right _ (List.mem_append_right _ (List.mem_append_right _ (List.mem_append_left _ (List.mem_of_getElem? (i := 29) rfl)))))))))
theorem wm_310 : Cond.methodLink R_L 95 y_E_freed ∈ WT := (List.mem_append_right _ (List.mem_append_right _ (List.mem_append_right _ (List.mem_append_right _ (List.mem_append_right _ (List.mem_append_right _ (List.mem_append_right _ (List.mem_append_left _ (List.mem_of_getElem? (i := 30) rfl)))))))))
theorem wm_311 : Cond.instanceMethod y_E_freed ∈ WT := (List.mem_append_right _ (List.mem_append_right _ (List.mem_append_right _ (List.mem_append_right _ (List.mem_append_right _ (List.mem_append_right _ (List.mem_append_right _ (List.mem_append_left _ (List.mem_of_getElem? (i := 31) rfl)))))))))
theorem wm_312 : Cond.selects R_E y_E_freed y_E_freed ∈ WT := (List.mem_append_right _ (List.mem_append_right _ (List.mem_append_right _ (List.mem_append_right _ (List.mem_append_right _ (List.mem_append_right _ (List.mem_append_right _ (List.mem_append_left _ (List.mem_of_getElem? (i := 32) rfl)))))))))
theorem wm_313 : Cond.code y_E_freed prog_1_method_17_code 3 (some .int) ∈ WT := (List.mem_append_right _ (List.mem_append_right _ (List.mem_append_right _ (List.mem_append_right _ (List.mem_append_right _ (List.mem_append_right _ (List.mem_append_right _ (List.mem_append_left _ (List.mem_of_getElem? (i := 33) rfl)))))))))
theorem wm_314 : Cond.methodLink R_E 113 y_N_freedOf ∈ WT := (List.mem_append_right _ (List.mem_append_right _ (List.mem_append_right _ (List.mem_append_right _ (List.mem_append_right _ (List.mem_append_right _ (List.mem_append_right _ (List.mem_append_left _ (List.mem_of_getElem? (i := 34) rfl)))))))))
theorem wm_315 : Cond.instanceMethod y_N_freedOf ∈ WT := (List.mem_append_right _ (List.mem_append_right _ (List.mem_append_right _ (List.mem_append_right _ (List.mem_append_right _ (List.mem_append_right _ (List.mem_append_right _ (List.mem_append_left _ (List.mem_of_getElem? (i := 35) rfl)))))))))
theorem wm_316 : Cond.selects R_N y_N_freedOf y_N_freedOf ∈ WT := (List.mem_append_right _ (List.mem_append_right _ (List.mem_append_right _ (List.mem_append_right _ (List.mem_append_right _ (List.mem_append_right _ (List.mem_append_right _ (List.mem_append_left _ (List.mem_of_getElem? (i := 36) rfl)))))))))
theorem wm_317 : Cond.code y_N_freedOf prog_2_method_7_code 2 (some .int) ∈ WT := (List.mem_append_right _ (List.mem_append_right _ (List.mem_append_right _ (List.mem_append_right _ (List.mem_append_right _ (List.mem_append_right _ (List.mem_append_right _ (List.mem_append_left _ (List.mem_of_getElem? (i := 37) rfl)))))))))
theorem wm_318 : Cond.methodLink R_L 99 y_E_kept ∈ WT := (List.mem_append_right _ (List.mem_append_right _ (List.mem_append_right _ (List.mem_append_right _ (List.mem_append_right _ (List.mem_append_right _ (List.mem_append_right _ (List.mem_append_left _ (List.mem_of_getElem? (i := 38) rfl)))))))))
theorem wm_319 : Cond.instanceMethod y_E_kept ∈ WT := (List.mem_append_right _ (List.mem_append_right _ (List.mem_append_right _ (List.mem_append_right _ (List.mem_append_right _ (List.mem_append_right _ (List.mem_append_right _ (List.mem_append_left _ (List.mem_of_getElem? (i := 39) rfl)))))))))
theorem wm_320 : Cond.selects R_E y_E_kept y_E_kept ∈ WT := (List.mem_append_right _ (List.mem_append_right _ (List.mem_append_right _ (List.mem_append_right _ (List.mem_append_right _ (List.mem_append_right _ (List.mem_append_right _ (List.mem_append_right _ (List.mem_append_left _ (List.mem_of_getElem? (i := 0) rfl))))))))))
theorem wm_321 : Cond.code y_E_kept prog_1_method_18_code 2 (some .int) ∈ WT := (List.mem_append_right _ (List.mem_append_right _ (List.mem_append_right _ (List.mem_append_right _ (List.mem_append_right _ (List.mem_append_right _ (List.mem_append_right _ (List.mem_append_right _ (List.mem_append_left _ (List.mem_of_getElem? (i := 1) rfl))))))))))
theorem wm_322 : Cond.methodLink R_E 116 y_N_countKept ∈ WT := (List.mem_append_right _ (List.mem_append_right _ (List.mem_append_right _ (List.mem_append_right _ (List.mem_append_right _ (List.mem_append_right _ (List.mem_append_right _ (List.mem_append_right _ (List.mem_append_left _ (List.mem_of_getElem? (i := 2) rfl))))))))))
theorem wm_323 : Cond.instanceMethod y_N_countKept ∈ WT := (List.mem_append_right _ (List.mem_append_right _ (List.mem_append_right _ (List.mem_append_right _ (List.mem_append_right _ (List.mem_append_right _ (List.mem_append_right _ (List.mem_append_right _ (List.mem_append_left _ (List.mem_of_getElem? (i := 3) rfl))))))))))
theorem wm_324 : Cond.selects R_N y_N_countKept y_N_countKept ∈ WT := (List.mem_append_right _ (List.mem_append_right _ (List.mem_append_right _ (List.mem_append_right _ (List.mem_append_right _ (List.mem_append_right _ (List.mem_append_right _ (List.mem_append_right _ (List.mem_append_left _ (List.mem_of_getElem? (i := 4) rfl))))))))))
theorem wm_325 : Cond.code y_N_countKept prog_2_method_18_code 3 (some .int) ∈ WT := (List.mem_append_right _ (List.mem_append_right _ (List.mem_append_right _ (List.mem_append_right _ (List.mem_append_right _ (List.mem_append_right _ (List.mem_append_right _ (List.mem_append_right _ (List.mem_append_left _ (List.mem_of_getElem? (i := 5) rfl))))))))))
theorem wm_326 : Cond.methodLink R_N 108 y_N_keeps ∈ WT := (List.mem_append_right _ (List.mem_append_right _ (List.mem_append_right _ (List.mem_append_right _ (List.mem_append_right _ (List.mem_append_right _ (List.mem_append_right _ (List.mem_append_right _ (List.mem_append_left _ (List.mem_of_getElem? (i := 6) rfl))))))))))
theorem wm_327 : Cond.instanceMethod y_N_keeps ∈ WT := (List.mem_append_right _ (List.mem_append_right _ (List.mem_append_right _ (List.mem_append_right _ (List.mem_append_right _ (List.mem_append_right _ (List.mem_append_right _ (List.mem_append_right _ (List.mem_append_left _ (List.mem_of_getElem? (i := 7) rfl))))))))))
theorem wm_328 : Cond.code y_N_keeps prog_2_method_19_code 2 (some .boolean) ∈ WT := (List.mem_append_right _ (List.mem_append_right _ (List.mem_append_right _ (List.mem_append_right _ (List.mem_append_right _ (List.mem_append_right _ (List.mem_append_right _ (List.mem_append_right _ (List.mem_append_left _ (List.mem_of_getElem? (i := 8) rfl))))))))))
theorem wm_329 : Cond.methodLink R_N 112 y_N_countTellers ∈ WT := (List.mem_append_right _ (List.mem_append_right _ (List.mem_append_right _ (List.mem_append_right _ (List.mem_append_right _ (List.mem_append_right _ (List.mem_append_right _ (List.mem_append_right _ (List.mem_append_left _ (List.mem_of_getElem? (i := 9) rfl))))))))))
theorem wm_330 : Cond.methodLink R_L 103 y_E_state ∈ WT := (List.mem_append_right _ (List.mem_append_right _ (List.mem_append_right _ (List.mem_append_right _ (List.mem_append_right _ (List.mem_append_right _ (List.mem_append_right _ (List.mem_append_right _ (List.mem_append_left _ (List.mem_of_getElem? (i := 10) rfl))))))))))
theorem wm_331 : Cond.methodLink R_L 9 y_L_cell ∈ WT := (List.mem_append_right _ (List.mem_append_right _ (List.mem_append_right _ (List.mem_append_right _ (List.mem_append_right _ (List.mem_append_right _ (List.mem_append_right _ (List.mem_append_right _ (List.mem_append_left _ (List.mem_of_getElem? (i := 11) rfl))))))))))
theorem wm_332 : Cond.static y_L_cell ∈ WT := (List.mem_append_right _ (List.mem_append_right _ (List.mem_append_right _ (List.mem_append_right _ (List.mem_append_right _ (List.mem_append_right _ (List.mem_append_right _ (List.mem_append_right _ (List.mem_append_left _ (List.mem_of_getElem? (i := 12) rfl))))))))))
theorem wm_333 : Cond.code y_L_cell method_2_code 2 (some .int) ∈ WT := (List.mem_append_right _ (List.mem_append_right _ (List.mem_append_right _ (List.mem_append_right _ (List.mem_append_right _ (List.mem_append_right _ (List.mem_append_right _ (List.mem_append_right _ (List.mem_append_left _ (List.mem_of_getElem? (i := 13) rfl))))))))))
theorem wm_334 : Cond.classLink R_L 18 R_M ∈ WT := (List.mem_append_right _ (List.mem_append_right _ (List.mem_append_right _ (List.mem_append_right _ (List.mem_append_right _ (List.mem_append_right _ (List.mem_append_right _ (List.mem_append_right _ (List.mem_append_left _ (List.mem_of_getElem? (i := 14) rfl))))))))))
theorem wm_335 : Cond.instantiable R_M 15 ∈ WT := (List.mem_append_right _ (List.mem_append_right _ (List.mem_append_right _ (List.mem_append_right _ (List.mem_append_right _ (List.mem_append_right _ (List.mem_append_right _ (List.mem_append_right _ (List.mem_append_left _ (List.mem_of_getElem? (i := 15) rfl))))))))))
theorem wm_336 : Cond.methodLink R_L 20 y_M_init ∈ WT := (List.mem_append_right _ (List.mem_append_right _ (List.mem_append_right _ (List.mem_append_right _ (List.mem_append_right _ (List.mem_append_right _ (List.mem_append_right _ (List.mem_append_right _ (List.mem_append_left _ (List.mem_of_getElem? (i := 16) rfl))))))))))
theorem wm_337 : Cond.instanceMethod y_M_init ∈ WT := (List.mem_append_right _ (List.mem_append_right _ (List.mem_append_right _ (List.mem_append_right _ (List.mem_append_right _ (List.mem_append_right _ (List.mem_append_right _ (List.mem_append_right _ (List.mem_append_left _ (List.mem_of_getElem? (i := 17) rfl))))))))))
theorem wm_338 : Cond.code y_M_init prog_6_method_1_code 3 none ∈ WT := (List.mem_append_right _ (List.mem_append_right _ (List.mem_append_right _ (List.mem_append_right _ (List.mem_append_right _ (List.mem_append_right _ (List.mem_append_right _ (List.mem_append_right _ (List.mem_append_left _ (List.mem_of_getElem? (i := 18) rfl))))))))))
theorem wm_339 : Cond.methodLink R_M 1 objectInit ∈ WT := (List.mem_append_right _ (List.mem_append_right _ (List.mem_append_right _ (List.mem_append_right _ (List.mem_append_right _ (List.mem_append_right _ (List.mem_append_right _ (List.mem_append_right _ (List.mem_append_left _ (List.mem_of_getElem? (i := 19) rfl))))))))))
theorem wm_340 : Cond.constantLong R_M 54 (1000) ∈ WT := (List.mem_append_right _ (List.mem_append_right _ (List.mem_append_right _ (List.mem_append_right _ (List.mem_append_right _ (List.mem_append_right _ (List.mem_append_right _ (List.mem_append_right _ (List.mem_append_left _ (List.mem_of_getElem? (i := 20) rfl))))))))))
theorem wm_341 : Cond.fieldLink "EchoPaymentsModel" 47 "EchoPaymentsModel" "n" "I" ∈ WT := (List.mem_append_right _ (List.mem_append_right _ (List.mem_append_right _ (List.mem_append_right _ (List.mem_append_right _ (List.mem_append_right _ (List.mem_append_right _ (List.mem_append_right _ (List.mem_append_left _ (List.mem_of_getElem? (i := 21) rfl))))))))))
theorem wm_342 : Cond.fieldLink "EchoPaymentsModel" 51 "EchoPaymentsModel" "f" "I" ∈ WT := (List.mem_append_right _ (List.mem_append_right _ (List.mem_append_right _ (List.mem_append_right _ (List.mem_append_right _ (List.mem_append_right _ (List.mem_append_right _ (List.mem_append_right _ (List.mem_append_left _ (List.mem_of_getElem? (i := 22) rfl))))))))))
theorem wm_343 : Cond.fieldLink "EchoPaymentsModel" 56 "EchoPaymentsModel" "first" "J" ∈ WT := (List.mem_append_right _ (List.mem_append_right _ (List.mem_append_right _ (List.mem_append_right _ (List.mem_append_right _ (List.mem_append_right _ (List.mem_append_right _ (List.mem_append_right _ (List.mem_append_left _ (List.mem_of_getElem? (i := 23) rfl))))))))))
theorem wm_344 : Cond.fieldLink "EchoPaymentsModel" 7 "EchoPaymentsModel" "status" "[I" ∈ WT := (List.mem_append_right _ (List.mem_append_right _ (List.mem_append_right _ (List.mem_append_right _ (List.mem_append_right _ (List.mem_append_right _ (List.mem_append_right _ (List.mem_append_right _ (List.mem_append_left _ (List.mem_of_getElem? (i := 24) rfl))))))))))
theorem wm_345 : Cond.fieldLink "EchoPaymentsModel" 13 "EchoPaymentsModel" "fuses" "[I" ∈ WT := (List.mem_append_right _ (List.mem_append_right _ (List.mem_append_right _ (List.mem_append_right _ (List.mem_append_right _ (List.mem_append_right _ (List.mem_append_right _ (List.mem_append_right _ (List.mem_append_left _ (List.mem_of_getElem? (i := 25) rfl))))))))))
theorem wm_346 : Cond.fieldLink "EchoPaymentsModel" 16 "EchoPaymentsModel" "submitted" "[I" ∈ WT := (List.mem_append_right _ (List.mem_append_right _ (List.mem_append_right _ (List.mem_append_right _ (List.mem_append_right _ (List.mem_append_right _ (List.mem_append_right _ (List.mem_append_right _ (List.mem_append_left _ (List.mem_of_getElem? (i := 26) rfl))))))))))
theorem wm_347 : Cond.fieldLink "EchoPaymentsModel" 19 "EchoPaymentsModel" "own" "[J" ∈ WT := (List.mem_append_right _ (List.mem_append_right _ (List.mem_append_right _ (List.mem_append_right _ (List.mem_append_right _ (List.mem_append_right _ (List.mem_append_right _ (List.mem_append_right _ (List.mem_append_left _ (List.mem_of_getElem? (i := 27) rfl))))))))))
theorem wm_348 : Cond.fieldLink "EchoPaymentsModel" 23 "EchoPaymentsModel" "echo" "[J" ∈ WT := (List.mem_append_right _ (List.mem_append_right _ (List.mem_append_right _ (List.mem_append_right _ (List.mem_append_right _ (List.mem_append_right _ (List.mem_append_right _ (List.mem_append_right _ (List.mem_append_left _ (List.mem_of_getElem? (i := 28) rfl))))))))))
theorem wm_349 : Cond.fieldLink "EchoPaymentsModel" 26 "EchoPaymentsModel" "ready" "[J" ∈ WT := (List.mem_append_right _ (List.mem_append_right _ (List.mem_append_right _ (List.mem_append_right _ (List.mem_append_right _ (List.mem_append_right _ (List.mem_append_right _ (List.mem_append_right _ (List.mem_append_left _ (List.mem_of_getElem? (i := 29) rfl))))))))))
theorem wm_350 : Cond.fieldLink "EchoPaymentsModel" 29 "EchoPaymentsModel" "applied" "[J" ∈ WT := (List.mem_append_right _ (List.mem_append_right _ (List.mem_append_right _ (List.mem_append_right _ (List.mem_append_right _ (List.mem_append_right _ (List.mem_append_right _ (List.mem_append_right _ (List.mem_append_left _ (List.mem_of_getElem? (i := 30) rfl))))))))))
theorem wm_351 : Cond.fieldLink "EchoPaymentsModel" 32 "EchoPaymentsModel" "freed" "[I" ∈ WT := (List.mem_append_right _ (List.mem_append_right _ (List.mem_append_right _ (List.mem_append_right _ (List.mem_append_right _ (List.mem_append_right _ (List.mem_append_right _ (List.mem_append_right _ (List.mem_append_left _ (List.mem_of_getElem? (i := 31) rfl))))))))))
theorem wm_352 : Cond.fieldLink "EchoPaymentsModel" 35 "EchoPaymentsModel" "marks" "[I" ∈ WT := (List.mem_append_right _ (List.mem_append_right _ (List.mem_append_right _ (List.mem_append_right _ (List.mem_append_right _ (List.mem_append_right _ (List.mem_append_right _ (List.mem_append_right _ (List.mem_append_left _ (List.mem_of_getElem? (i := 32) rfl))))))))))
theorem wm_353 : Cond.fieldLink "EchoPaymentsModel" 38 "EchoPaymentsModel" "heard" "[J" ∈ WT := (List.mem_append_right _ (List.mem_append_right _ (List.mem_append_right _ (List.mem_append_right _ (List.mem_append_right _ (List.mem_append_right _ (List.mem_append_right _ (List.mem_append_right _ (List.mem_append_left _ (List.mem_of_getElem? (i := 33) rfl))))))))))
theorem wm_354 : Cond.fieldLink "EchoPaymentsModel" 41 "EchoPaymentsModel" "heardMark" "[I" ∈ WT := (List.mem_append_right _ (List.mem_append_right _ (List.mem_append_right _ (List.mem_append_right _ (List.mem_append_right _ (List.mem_append_right _ (List.mem_append_right _ (List.mem_append_right _ (List.mem_append_left _ (List.mem_of_getElem? (i := 34) rfl))))))))))
theorem wm_355 : Cond.fieldLink "EchoPaymentsModel" 44 "EchoPaymentsModel" "accepted" "[J" ∈ WT := (List.mem_append_right _ (List.mem_append_right _ (List.mem_append_right _ (List.mem_append_right _ (List.mem_append_right _ (List.mem_append_right _ (List.mem_append_right _ (List.mem_append_right _ (List.mem_append_left _ (List.mem_of_getElem? (i := 35) rfl))))))))))
theorem wm_356 : Cond.laysFinal "EchoPaymentsModel" "EchoPaymentsModel" "n" "I" ∈ WT := (List.mem_append_right _ (List.mem_append_right _ (List.mem_append_right _ (List.mem_append_right _ (List.mem_append_right _ (List.mem_append_right _ (List.mem_append_right _ (List.mem_append_right _ (List.mem_append_left _ (List.mem_of_getElem? (i := 36) rfl))))))))))
theorem wm_357 : Cond.laysFinal "EchoPaymentsModel" "EchoPaymentsModel" "f" "I" ∈ WT := (List.mem_append_right _ (List.mem_append_right _ (List.mem_append_right _ (List.mem_append_right _ (List.mem_append_right _ (List.mem_append_right _ (List.mem_append_right _ (List.mem_append_right _ (List.mem_append_left _ (List.mem_of_getElem? (i := 37) rfl))))))))))
theorem wm_358 : Cond.laysFinal "EchoPaymentsModel" "EchoPaymentsModel" "first" "J" ∈ WT := (List.mem_append_right _ (List.mem_append_right _ (List.mem_append_right _ (List.mem_append_right _ (List.mem_append_right _ (List.mem_append_right _ (List.mem_append_right _ (List.mem_append_right _ (List.mem_append_left _ (List.mem_of_getElem? (i := 38) rfl))))))))))
theorem wm_359 : Cond.laysFinal "EchoPaymentsModel" "EchoPaymentsModel" "status" "[I" ∈ WT := (List.mem_append_right _ (List.mem_append_right _ (List.mem_append_right _ (List.mem_append_right _ (List.mem_append_right _ (List.mem_append_right _ (List.mem_append_right _ (List.mem_append_right _ (List.mem_append_left _ (List.mem_of_getElem? (i := 39) rfl))))))))))
theorem wm_360 : Cond.laysFinal "EchoPaymentsModel" "EchoPaymentsModel" "fuses" "[I" ∈ WT := (List.mem_append_right _ (List.mem_append_right _ (List.mem_append_right _ (List.mem_append_right _ (List.mem_append_right _ (List.mem_append_right _ (List.mem_append_right _ (List.mem_append_right _ (List.mem_append_right _ (List.mem_append_left _ (List.mem_of_getElem? (i := 0) rfl)))))))))))
theorem wm_361 : Cond.laysFinal "EchoPaymentsModel" "EchoPaymentsModel" "submitted" "[I" ∈ WT := (List.mem_append_right _ (List.mem_append_right _ (List.mem_append_right _ (List.mem_append_right _ (List.mem_append_right _ (List.mem_append_right _ (List.mem_append_right _ (List.mem_append_right _ (List.mem_append_right _ (List.mem_append_left _ (List.mem_of_getElem? (i := 1) rfl)))))))))))
theorem wm_362 : Cond.laysFinal "EchoPaymentsModel" "EchoPaymentsModel" "own" "[J" ∈ WT := (List.mem_append_right _ (List.mem_append_right _ (List.mem_append_right _ (List.mem_append_right _ (List.mem_append_right _ (List.mem_append_right _ (List.mem_append_right _ (List.mem_append_right _ (List.mem_append_right _ (List.mem_append_left _ (List.mem_of_getElem? (i := 2) rfl)))))))))))
theorem wm_363 : Cond.laysFinal "EchoPaymentsModel" "EchoPaymentsModel" "echo" "[J" ∈ WT := (List.mem_append_right _ (List.mem_append_right _ (List.mem_append_right _ (List.mem_append_right _ (List.mem_append_right _ (List.mem_append_right _ (List.mem_append_right _ (List.mem_append_right _ (List.mem_append_right _ (List.mem_append_left _ (List.mem_of_getElem? (i := 3) rfl)))))))))))
theorem wm_364 : Cond.laysFinal "EchoPaymentsModel" "EchoPaymentsModel" "ready" "[J" ∈ WT := (List.mem_append_right _ (List.mem_append_right _ (List.mem_append_right _ (List.mem_append_right _ (List.mem_append_right _ (List.mem_append_right _ (List.mem_append_right _ (List.mem_append_right _ (List.mem_append_right _ (List.mem_append_left _ (List.mem_of_getElem? (i := 4) rfl)))))))))))
theorem wm_365 : Cond.laysFinal "EchoPaymentsModel" "EchoPaymentsModel" "applied" "[J" ∈ WT := (List.mem_append_right _ (List.mem_append_right _ (List.mem_append_right _ (List.mem_append_right _ (List.mem_append_right _ (List.mem_append_right _ (List.mem_append_right _ (List.mem_append_right _ (List.mem_append_right _ (List.mem_append_left _ (List.mem_of_getElem? (i := 5) rfl)))))))))))
theorem wm_366 : Cond.laysFinal "EchoPaymentsModel" "EchoPaymentsModel" "freed" "[I" ∈ WT := (List.mem_append_right _ (List.mem_append_right _ (List.mem_append_right _ (List.mem_append_right _ (List.mem_append_right _ (List.mem_append_right _ (List.mem_append_right _ (List.mem_append_right _ (List.mem_append_right _ (List.mem_append_left _ (List.mem_of_getElem? (i := 6) rfl)))))))))))
theorem wm_367 : Cond.laysFinal "EchoPaymentsModel" "EchoPaymentsModel" "marks" "[I" ∈ WT := (List.mem_append_right _ (List.mem_append_right _ (List.mem_append_right _ (List.mem_append_right _ (List.mem_append_right _ (List.mem_append_right _ (List.mem_append_right _ (List.mem_append_right _ (List.mem_append_right _ (List.mem_append_left _ (List.mem_of_getElem? (i := 7) rfl)))))))))))
theorem wm_368 : Cond.laysFinal "EchoPaymentsModel" "EchoPaymentsModel" "heard" "[J" ∈ WT := (List.mem_append_right _ (List.mem_append_right _ (List.mem_append_right _ (List.mem_append_right _ (List.mem_append_right _ (List.mem_append_right _ (List.mem_append_right _ (List.mem_append_right _ (List.mem_append_right _ (List.mem_append_left _ (List.mem_of_getElem? (i := 8) rfl)))))))))))
theorem wm_369 : Cond.laysFinal "EchoPaymentsModel" "EchoPaymentsModel" "heardMark" "[I" ∈ WT := (List.mem_append_right _ (List.mem_append_right _ (List.mem_append_right _ (List.mem_append_right _ (List.mem_append_right _ (List.mem_append_right _ (List.mem_append_right _ (List.mem_append_right _ (List.mem_append_right _ (List.mem_append_left _ (List.mem_of_getElem? (i := 9) rfl)))))))))))
theorem wm_370 : Cond.laysFinal "EchoPaymentsModel" "EchoPaymentsModel" "accepted" "[J" ∈ WT := (List.mem_append_right _ (List.mem_append_right _ (List.mem_append_right _ (List.mem_append_right _ (List.mem_append_right _ (List.mem_append_right _ (List.mem_append_right _ (List.mem_append_right _ (List.mem_append_right _ (List.mem_append_left _ (List.mem_of_getElem? (i := 10) rfl)))))))))))
theorem wm_371 : Cond.methodLink R_L 52 y_M_pending ∈ WT := (List.mem_append_right _ (List.mem_append_right _ (List.mem_append_right _ (List.mem_append_right _ (List.mem_append_right _ (List.mem_append_right _ (List.mem_append_right _ (List.mem_append_right _ (List.mem_append_right _ (List.mem_append_left _ (List.mem_of_getElem? (i := 11) rfl)))))))))))
theorem wm_372 : Cond.instanceMethod y_M_pending ∈ WT := (List.mem_append_right _ (List.mem_append_right _ (List.mem_append_right _ (List.mem_append_right _ (List.mem_append_right _ (List.mem_append_right _ (List.mem_append_right _ (List.mem_append_right _ (List.mem_append_right _ (List.mem_append_left _ (List.mem_of_getElem? (i := 12) rfl)))))))))))
theorem wm_373 : Cond.selects R_M y_M_pending y_M_pending ∈ WT := (List.mem_append_right _ (List.mem_append_right _ (List.mem_append_right _ (List.mem_append_right _ (List.mem_append_right _ (List.mem_append_right _ (List.mem_append_right _ (List.mem_append_right _ (List.mem_append_right _ (List.mem_append_left _ (List.mem_of_getElem? (i := 13) rfl)))))))))))
theorem wm_374 : Cond.code y_M_pending prog_6_method_28_code 4 (some .int) ∈ WT := (List.mem_append_right _ (List.mem_append_right _ (List.mem_append_right _ (List.mem_append_right _ (List.mem_append_right _ (List.mem_append_right _ (List.mem_append_right _ (List.mem_append_right _ (List.mem_append_right _ (List.mem_append_left _ (List.mem_of_getElem? (i := 14) rfl)))))))))))
theorem wm_375 : Cond.methodLink R_M 159 y_M_to ∈ WT := (List.mem_append_right _ (List.mem_append_right _ (List.mem_append_right _ (List.mem_append_right _ (List.mem_append_right _ (List.mem_append_right _ (List.mem_append_right _ (List.mem_append_right _ (List.mem_append_right _ (List.mem_append_left _ (List.mem_of_getElem? (i := 15) rfl)))))))))))
theorem wm_376 : Cond.instanceMethod y_M_to ∈ WT := (List.mem_append_right _ (List.mem_append_right _ (List.mem_append_right _ (List.mem_append_right _ (List.mem_append_right _ (List.mem_append_right _ (List.mem_append_right _ (List.mem_append_right _ (List.mem_append_right _ (List.mem_append_left _ (List.mem_of_getElem? (i := 16) rfl)))))))))))
theorem wm_377 : Cond.code y_M_to prog_6_method_27_code 8 (some .int) ∈ WT := (List.mem_append_right _ (List.mem_append_right _ (List.mem_append_right _ (List.mem_append_right _ (List.mem_append_right _ (List.mem_append_right _ (List.mem_append_right _ (List.mem_append_right _ (List.mem_append_right _ (List.mem_append_left _ (List.mem_of_getElem? (i := 17) rfl)))))))))))
theorem wm_378 : Cond.methodLink R_M 140 y_M_correct ∈ WT := (List.mem_append_right _ (List.mem_append_right _ (List.mem_append_right _ (List.mem_append_right _ (List.mem_append_right _ (List.mem_append_right _ (List.mem_append_right _ (List.mem_append_right _ (List.mem_append_right _ (List.mem_append_left _ (List.mem_of_getElem? (i := 18) rfl)))))))))))
theorem wm_379 : Cond.instanceMethod y_M_correct ∈ WT := (List.mem_append_right _ (List.mem_append_right _ (List.mem_append_right _ (List.mem_append_right _ (List.mem_append_right _ (List.mem_append_right _ (List.mem_append_right _ (List.mem_append_right _ (List.mem_append_right _ (List.mem_append_left _ (List.mem_of_getElem? (i := 19) rfl)))))))))))
theorem wm_380 : Cond.code y_M_correct prog_6_method_4_code 2 (some .boolean) ∈ WT := (List.mem_append_right _ (List.mem_append_right _ (List.mem_append_right _ (List.mem_append_right _ (List.mem_append_right _ (List.mem_append_right _ (List.mem_append_right _ (List.mem_append_right _ (List.mem_append_right _ (List.mem_append_left _ (List.mem_of_getElem? (i := 20) rfl)))))))))))
theorem wm_381 : Cond.methodLink R_M 143 y_M_kindOf ∈ WT := (List.mem_append_right _ (List.mem_append_right _ (List.mem_append_right _ (List.mem_append_right _ (List.mem_append_right _ (List.mem_append_right _ (List.mem_append_right _ (List.mem_append_right _ (List.mem_append_right _ (List.mem_append_left _ (List.mem_of_getElem? (i := 21) rfl)))))))))))
theorem wm_382 : Cond.static y_M_kindOf ∈ WT := (List.mem_append_right _ (List.mem_append_right _ (List.mem_append_right _ (List.mem_append_right _ (List.mem_append_right _ (List.mem_append_right _ (List.mem_append_right _ (List.mem_append_right _ (List.mem_append_right _ (List.mem_append_left _ (List.mem_of_getElem? (i := 22) rfl)))))))))))
theorem wm_383 : Cond.code y_M_kindOf prog_6_method_24_code 1 (some .int) ∈ WT := (List.mem_append_right _ (List.mem_append_right _ (List.mem_append_right _ (List.mem_append_right _ (List.mem_append_right _ (List.mem_append_right _ (List.mem_append_right _ (List.mem_append_right _ (List.mem_append_right _ (List.mem_append_left _ (List.mem_of_getElem? (i := 23) rfl)))))))))))
theorem wm_384 : Cond.methodLink R_M 146 y_M_accountOf ∈ WT := (List.mem_append_right _ (List.mem_append_right _ (List.mem_append_right _ (List.mem_append_right _ (List.mem_append_right _ (List.mem_append_right _ (List.mem_append_right _ (List.mem_append_right _ (List.mem_append_right _ (List.mem_append_left _ (List.mem_of_getElem? (i := 24) rfl)))))))))))
theorem wm_385 : Cond.static y_M_accountOf ∈ WT := (List.mem_append_right _ (List.mem_append_right _ (List.mem_append_right _ (List.mem_append_right _ (List.mem_append_right _ (List.mem_append_right _ (List.mem_append_right _ (List.mem_append_right _ (List.mem_append_right _ (List.mem_append_left _ (List.mem_of_getElem? (i := 25) rfl)))))))))))
theorem wm_386 : Cond.code y_M_accountOf prog_6_method_25_code 1 (some .int) ∈ WT := (List.mem_append_right _ (List.mem_append_right _ (List.mem_append_right _ (List.mem_append_right _ (List.mem_append_right _ (List.mem_append_right _ (List.mem_append_right _ (List.mem_append_right _ (List.mem_append_right _ (List.mem_append_left _ (List.mem_of_getElem? (i := 26) rfl)))))))))))
theorem wm_387 : Cond.methodLink R_M 149 y_M_seqOf ∈ WT := (List.mem_append_right _ (List.mem_append_right _ (List.mem_append_right _ (List.mem_append_right _ (List.mem_append_right _ (List.mem_append_right _ (List.mem_append_right _ (List.mem_append_right _ (List.mem_append_right _ (List.mem_append_left _ (List.mem_of_getElem? (i := 27) rfl)))))))))))
theorem wm_388 : Cond.static y_M_seqOf ∈ WT := (List.mem_append_right _ (List.mem_append_right _ (List.mem_append_right _ (List.mem_append_right _ (List.mem_append_right _ (List.mem_append_right _ (List.mem_append_right _ (List.mem_append_right _ (List.mem_append_right _ (List.mem_append_left _ (List.mem_of_getElem? (i := 28) rfl)))))))))))
theorem wm_389 : Cond.code y_M_seqOf prog_6_method_26_code 1 (some .int) ∈ WT := (List.mem_append_right _ (List.mem_append_right _ (List.mem_append_right _ (List.mem_append_right _ (List.mem_append_right _ (List.mem_append_right _ (List.mem_append_right _ (List.mem_append_right _ (List.mem_append_right _ (List.mem_append_left _ (List.mem_of_getElem? (i := 29) rfl)))))))))))
theorem wm_390 : Cond.methodLink R_M 152 y_M_said ∈ WT := (List.mem_append_right _ (List.mem_append_right _ (List.mem_append_right _ (List.mem_append_right _ (List.mem_append_right _ (List.mem_append_right _ (List.mem_append_right _ (List.mem_append_right _ (List.mem_append_right _ (List.mem_append_left _ (List.mem_of_getElem? (i := 30) rfl)))))))))))
theorem wm_391 : Cond.instanceMethod y_M_said ∈ WT := (List.mem_append_right _ (List.mem_append_right _ (List.mem_append_right _ (List.mem_append_right _ (List.mem_append_right _ (List.mem_append_right _ (List.mem_append_right _ (List.mem_append_right _ (List.mem_append_right _ (List.mem_append_left _ (List.mem_of_getElem? (i := 31) rfl)))))))))))
theorem wm_392 : Cond.code y_M_said prog_6_method_17_code 7 (some .long) ∈ WT := (List.mem_append_right _ (List.mem_append_right _ (List.mem_append_right _ (List.mem_append_right _ (List.mem_append_right _ (List.mem_append_right _ (List.mem_append_right _ (List.mem_append_right _ (List.mem_append_right _ (List.mem_append_left _ (List.mem_of_getElem? (i := 32) rfl)))))))))))
theorem wm_393 : Cond.constantLong R_M 99 (-1) ∈ WT := (List.mem_append_right _ (List.mem_append_right _ (List.mem_append_right _ (List.mem_append_right _ (List.mem_append_right _ (List.mem_append_right _ (List.mem_append_right _ (List.mem_append_right _ (List.mem_append_right _ (List.mem_append_left _ (List.mem_of_getElem? (i := 33) rfl)))))))))))
theorem wm_394 : Cond.methodLink R_M 64 y_M_isInstance ∈ WT := (List.mem_append_right _ (List.mem_append_right _ (List.mem_append_right _ (List.mem_append_right _ (List.mem_append_right _ (List.mem_append_right _ (List.mem_append_right _ (List.mem_append_right _ (List.mem_append_right _ (List.mem_append_left _ (List.mem_of_getElem? (i := 34) rfl)))))))))))
theorem wm_395 : Cond.instanceMethod y_M_isInstance ∈ WT := (List.mem_append_right _ (List.mem_append_right _ (List.mem_append_right _ (List.mem_append_right _ (List.mem_append_right _ (List.mem_append_right _ (List.mem_append_right _ (List.mem_append_right _ (List.mem_append_right _ (List.mem_append_left _ (List.mem_of_getElem? (i := 35) rfl)))))))))))
theorem wm_396 : Cond.code y_M_isInstance prog_6_method_6_code 3 (some .boolean) ∈ WT := (List.mem_append_right _ (List.mem_append_right _ (List.mem_append_right _ (List.mem_append_right _ (List.mem_append_right _ (List.mem_append_right _ (List.mem_append_right _ (List.mem_append_right _ (List.mem_append_right _ (List.mem_append_left _ (List.mem_of_getElem? (i := 36) rfl)))))))))))
theorem wm_397 : Cond.methodLink R_M 83 y_M_at ∈ WT := (List.mem_append_right _ (List.mem_append_right _ (List.mem_append_right _ (List.mem_append_right _ (List.mem_append_right _ (List.mem_append_right _ (List.mem_append_right _ (List.mem_append_right _ (List.mem_append_right _ (List.mem_append_left _ (List.mem_of_getElem? (i := 37) rfl)))))))))))
theorem wm_398 : Cond.static y_M_at ∈ WT := (List.mem_append_right _ (List.mem_append_right _ (List.mem_append_right _ (List.mem_append_right _ (List.mem_append_right _ (List.mem_append_right _ (List.mem_append_right _ (List.mem_append_right _ (List.mem_append_right _ (List.mem_append_left _ (List.mem_of_getElem? (i := 38) rfl)))))))))))
theorem wm_399 : Cond.code y_M_at prog_6_method_2_code 3 (some .int) ∈ WT := (List.mem_append_right _ (List.mem_append_right _ (List.mem_append_right _ (List.mem_append_right _ (List.mem_append_right _ (List.mem_append_right _ (List.mem_append_right _ (List.mem_append_right _ (List.mem_append_right _ (List.mem_append_left _ (List.mem_of_getElem? (i := 39) rfl)))))))))))
theorem wm_400 : Cond.methodLink R_M 156 y_M_up ∈ WT := (List.mem_append_right _ (List.mem_append_right _ (List.mem_append_right _ (List.mem_append_right _ (List.mem_append_right _ (List.mem_append_right _ (List.mem_append_right _ (List.mem_append_right _ (List.mem_append_right _ (List.mem_append_right _ (List.mem_append_left _ (List.mem_of_getElem? (i := 0) rfl))))))))))))
theorem wm_401 : Cond.instanceMethod y_M_up ∈ WT := (List.mem_append_right _ (List.mem_append_right _ (List.mem_append_right _ (List.mem_append_right _ (List.mem_append_right _ (List.mem_append_right _ (List.mem_append_right _ (List.mem_append_right _ (List.mem_append_right _ (List.mem_append_right _ (List.mem_append_left _ (List.mem_of_getElem? (i := 1) rfl))))))))))))
theorem wm_402 : Cond.code y_M_up prog_6_method_5_code 2 (some .boolean) ∈ WT := (List.mem_append_right _ (List.mem_append_right _ (List.mem_append_right _ (List.mem_append_right _ (List.mem_append_right _ (List.mem_append_right _ (List.mem_append_right _ (List.mem_append_right _ (List.mem_append_right _ (List.mem_append_right _ (List.mem_append_left _ (List.mem_of_getElem? (i := 2) rfl))))))))))))
theorem wm_403 : Cond.methodLink R_M 113 y_M_objection ∈ WT := (List.mem_append_right _ (List.mem_append_right _ (List.mem_append_right _ (List.mem_append_right _ (List.mem_append_right _ (List.mem_append_right _ (List.mem_append_right _ (List.mem_append_right _ (List.mem_append_right _ (List.mem_append_right _ (List.mem_append_left _ (List.mem_of_getElem? (i := 3) rfl))))))))))))
theorem wm_404 : Cond.instanceMethod y_M_objection ∈ WT := (List.mem_append_right _ (List.mem_append_right _ (List.mem_append_right _ (List.mem_append_right _ (List.mem_append_right _ (List.mem_append_right _ (List.mem_append_right _ (List.mem_append_right _ (List.mem_append_right _ (List.mem_append_right _ (List.mem_append_left _ (List.mem_of_getElem? (i := 4) rfl))))))))))))
theorem wm_405 : Cond.code y_M_objection prog_6_method_18_code 10 (some .int) ∈ WT := (List.mem_append_right _ (List.mem_append_right _ (List.mem_append_right _ (List.mem_append_right _ (List.mem_append_right _ (List.mem_append_right _ (List.mem_append_right _ (List.mem_append_right _ (List.mem_append_right _ (List.mem_append_right _ (List.mem_append_left _ (List.mem_of_getElem? (i := 5) rfl))))))))))))
theorem wm_406 : Cond.methodLink R_M 101 y_M_isMark ∈ WT := (List.mem_append_right _ (List.mem_append_right _ (List.mem_append_right _ (List.mem_append_right _ (List.mem_append_right _ (List.mem_append_right _ (List.mem_append_right _ (List.mem_append_right _ (List.mem_append_right _ (List.mem_append_right _ (List.mem_append_left _ (List.mem_of_getElem? (i := 6) rfl))))))))))))
theorem wm_407 : Cond.instanceMethod y_M_isMark ∈ WT := (List.mem_append_right _ (List.mem_append_right _ (List.mem_append_right _ (List.mem_append_right _ (List.mem_append_right _ (List.mem_append_right _ (List.mem_append_right _ (List.mem_append_right _ (List.mem_append_right _ (List.mem_append_right _ (List.mem_append_left _ (List.mem_of_getElem? (i := 7) rfl))))))))))))
theorem wm_408 : Cond.code y_M_isMark prog_6_method_11_code 4 (some .boolean) ∈ WT := (List.mem_append_right _ (List.mem_append_right _ (List.mem_append_right _ (List.mem_append_right _ (List.mem_append_right _ (List.mem_append_right _ (List.mem_append_right _ (List.mem_append_right _ (List.mem_append_right _ (List.mem_append_right _ (List.mem_append_left _ (List.mem_of_getElem? (i := 8) rfl))))))))))))
theorem wm_409 : Cond.constantLong R_M 60 (7) ∈ WT := (List.mem_append_right _ (List.mem_append_right _ (List.mem_append_right _ (List.mem_append_right _ (List.mem_append_right _ (List.mem_append_right _ (List.mem_append_right _ (List.mem_append_right _ (List.mem_append_right _ (List.mem_append_right _ (List.mem_append_left _ (List.mem_of_getElem? (i := 9) rfl))))))))))))
theorem wm_410 : Cond.constantLong R_M 81 (5) ∈ WT := (List.mem_append_right _ (List.mem_append_right _ (List.mem_append_right _ (List.mem_append_right _ (List.mem_append_right _ (List.mem_append_right _ (List.mem_append_right _ (List.mem_append_right _ (List.mem_append_right _ (List.mem_append_right _ (List.mem_append_left _ (List.mem_of_getElem? (i := 10) rfl))))))))))))
theorem wm_411 : Cond.methodLink R_M 105 y_M_wellFormed ∈ WT := (List.mem_append_right _ (List.mem_append_right _ (List.mem_append_right _ (List.mem_append_right _ (List.mem_append_right _ (List.mem_append_right _ (List.mem_append_right _ (List.mem_append_right _ (List.mem_append_right _ (List.mem_append_right _ (List.mem_append_left _ (List.mem_of_getElem? (i := 11) rfl))))))))))))
theorem wm_412 : Cond.instanceMethod y_M_wellFormed ∈ WT := (List.mem_append_right _ (List.mem_append_right _ (List.mem_append_right _ (List.mem_append_right _ (List.mem_append_right _ (List.mem_append_right _ (List.mem_append_right _ (List.mem_append_right _ (List.mem_append_right _ (List.mem_append_right _ (List.mem_append_left _ (List.mem_of_getElem? (i := 12) rfl))))))))))))
theorem wm_413 : Cond.code y_M_wellFormed prog_6_method_10_code 7 (some .boolean) ∈ WT := (List.mem_append_right _ (List.mem_append_right _ (List.mem_append_right _ (List.mem_append_right _ (List.mem_append_right _ (List.mem_append_right _ (List.mem_append_right _ (List.mem_append_right _ (List.mem_append_right _ (List.mem_append_right _ (List.mem_append_left _ (List.mem_of_getElem? (i := 13) rfl))))))))))))
theorem wm_414 : Cond.constantLong R_M 68 (17179869184) ∈ WT := (List.mem_append_right _ (List.mem_append_right _ (List.mem_append_right _ (List.mem_append_right _ (List.mem_append_right _ (List.mem_append_right _ (List.mem_append_right _ (List.mem_append_right _ (List.mem_append_right _ (List.mem_append_right _ (List.mem_append_left _ (List.mem_of_getElem? (i := 14) rfl))))))))))))
theorem wm_415 : Cond.methodLink R_M 70 y_M_payeeOf ∈ WT := (List.mem_append_right _ (List.mem_append_right _ (List.mem_append_right _ (List.mem_append_right _ (List.mem_append_right _ (List.mem_append_right _ (List.mem_append_right _ (List.mem_append_right _ (List.mem_append_right _ (List.mem_append_right _ (List.mem_append_left _ (List.mem_of_getElem? (i := 15) rfl))))))))))))
theorem wm_416 : Cond.static y_M_payeeOf ∈ WT := (List.mem_append_right _ (List.mem_append_right _ (List.mem_append_right _ (List.mem_append_right _ (List.mem_append_right _ (List.mem_append_right _ (List.mem_append_right _ (List.mem_append_right _ (List.mem_append_right _ (List.mem_append_right _ (List.mem_append_left _ (List.mem_of_getElem? (i := 16) rfl))))))))))))
theorem wm_417 : Cond.code y_M_payeeOf prog_6_method_7_code 2 (some .int) ∈ WT := (List.mem_append_right _ (List.mem_append_right _ (List.mem_append_right _ (List.mem_append_right _ (List.mem_append_right _ (List.mem_append_right _ (List.mem_append_right _ (List.mem_append_right _ (List.mem_append_right _ (List.mem_append_right _ (List.mem_append_left _ (List.mem_of_getElem? (i := 17) rfl))))))))))))
theorem wm_418 : Cond.methodLink R_M 74 y_M_amountOf ∈ WT := (List.mem_append_right _ (List.mem_append_right _ (List.mem_append_right _ (List.mem_append_right _ (List.mem_append_right _ (List.mem_append_right _ (List.mem_append_right _ (List.mem_append_right _ (List.mem_append_right _ (List.mem_append_right _ (List.mem_append_left _ (List.mem_of_getElem? (i := 18) rfl))))))))))))
theorem wm_419 : Cond.static y_M_amountOf ∈ WT := (List.mem_append_right _ (List.mem_append_right _ (List.mem_append_right _ (List.mem_append_right _ (List.mem_append_right _ (List.mem_append_right _ (List.mem_append_right _ (List.mem_append_right _ (List.mem_append_right _ (List.mem_append_right _ (List.mem_append_left _ (List.mem_of_getElem? (i := 19) rfl))))))))))))
theorem wm_420 : Cond.code y_M_amountOf prog_6_method_8_code 2 (some .int) ∈ WT := (List.mem_append_right _ (List.mem_append_right _ (List.mem_append_right _ (List.mem_append_right _ (List.mem_append_right _ (List.mem_append_right _ (List.mem_append_right _ (List.mem_append_right _ (List.mem_append_right _ (List.mem_append_right _ (List.mem_append_left _ (List.mem_of_getElem? (i := 20) rfl))))))))))))
theorem wm_421 : Cond.constantLong R_M 62 (1023) ∈ WT := (List.mem_append_right _ (List.mem_append_right _ (List.mem_append_right _ (List.mem_append_right _ (List.mem_append_right _ (List.mem_append_right _ (List.mem_append_right _ (List.mem_append_right _ (List.mem_append_right _ (List.mem_append_right _ (List.mem_append_left _ (List.mem_of_getElem? (i := 21) rfl))))))))))))
theorem wm_422 : Cond.methodLink R_M 77 y_M_needOf ∈ WT := (List.mem_append_right _ (List.mem_append_right _ (List.mem_append_right _ (List.mem_append_right _ (List.mem_append_right _ (List.mem_append_right _ (List.mem_append_right _ (List.mem_append_right _ (List.mem_append_right _ (List.mem_append_right _ (List.mem_append_left _ (List.mem_of_getElem? (i := 22) rfl))))))))))))
theorem wm_423 : Cond.static y_M_needOf ∈ WT := (List.mem_append_right _ (List.mem_append_right _ (List.mem_append_right _ (List.mem_append_right _ (List.mem_append_right _ (List.mem_append_right _ (List.mem_append_right _ (List.mem_append_right _ (List.mem_append_right _ (List.mem_append_right _ (List.mem_append_left _ (List.mem_of_getElem? (i := 23) rfl))))))))))))
theorem wm_424 : Cond.code y_M_needOf prog_6_method_9_code 3 (some .int) ∈ WT := (List.mem_append_right _ (List.mem_append_right _ (List.mem_append_right _ (List.mem_append_right _ (List.mem_append_right _ (List.mem_append_right _ (List.mem_append_right _ (List.mem_append_right _ (List.mem_append_right _ (List.mem_append_right _ (List.mem_append_left _ (List.mem_of_getElem? (i := 24) rfl))))))))))))
theorem wm_425 : Cond.methodLink R_M 109 y_M_ear ∈ WT := (List.mem_append_right _ (List.mem_append_right _ (List.mem_append_right _ (List.mem_append_right _ (List.mem_append_right _ (List.mem_append_right _ (List.mem_append_right _ (List.mem_append_right _ (List.mem_append_right _ (List.mem_append_right _ (List.mem_append_left _ (List.mem_of_getElem? (i := 25) rfl))))))))))))
theorem wm_426 : Cond.static y_M_ear ∈ WT := (List.mem_append_right _ (List.mem_append_right _ (List.mem_append_right _ (List.mem_append_right _ (List.mem_append_right _ (List.mem_append_right _ (List.mem_append_right _ (List.mem_append_right _ (List.mem_append_right _ (List.mem_append_right _ (List.mem_append_left _ (List.mem_of_getElem? (i := 26) rfl))))))))))))
theorem wm_427 : Cond.code y_M_ear prog_6_method_3_code 5 (some .int) ∈ WT := (List.mem_append_right _ (List.mem_append_right _ (List.mem_append_right _ (List.mem_append_right _ (List.mem_append_right _ (List.mem_append_right _ (List.mem_append_right _ (List.mem_append_right _ (List.mem_append_right _ (List.mem_append_right _ (List.mem_append_left _ (List.mem_of_getElem? (i := 27) rfl))))))))))))
theorem wm_428 : Cond.methodLink R_L 47 y_M_pump ∈ WT := (List.mem_append_right _ (List.mem_append_right _ (List.mem_append_right _ (List.mem_append_right _ (List.mem_append_right _ (List.mem_append_right _ (List.mem_append_right _ (List.mem_append_right _ (List.mem_append_right _ (List.mem_append_right _ (List.mem_append_left _ (List.mem_of_getElem? (i := 28) rfl))))))))))))
theorem wm_429 : Cond.instanceMethod y_M_pump ∈ WT := (List.mem_append_right _ (List.mem_append_right _ (List.mem_append_right _ (List.mem_append_right _ (List.mem_append_right _ (List.mem_append_right _ (List.mem_append_right _ (List.mem_append_right _ (List.mem_append_right _ (List.mem_append_right _ (List.mem_append_left _ (List.mem_of_getElem? (i := 29) rfl))))))))))))
theorem wm_430 : Cond.selects R_M y_M_pump y_M_pump ∈ WT := (List.mem_append_right _ (List.mem_append_right _ (List.mem_append_right _ (List.mem_append_right _ (List.mem_append_right _ (List.mem_append_right _ (List.mem_append_right _ (List.mem_append_right _ (List.mem_append_right _ (List.mem_append_right _ (List.mem_append_left _ (List.mem_of_getElem? (i := 30) rfl))))))))))))
theorem wm_431 : Cond.code y_M_pump prog_6_method_30_code 3 (some .int) ∈ WT := (List.mem_append_right _ (List.mem_append_right _ (List.mem_append_right _ (List.mem_append_right _ (List.mem_append_right _ (List.mem_append_right _ (List.mem_append_right _ (List.mem_append_right _ (List.mem_append_right _ (List.mem_append_right _ (List.mem_append_left _ (List.mem_of_getElem? (i := 31) rfl))))))))))))
theorem wm_432 : Cond.methodLink R_M 166 y_M_deliver ∈ WT := (List.mem_append_right _ (List.mem_append_right _ (List.mem_append_right _ (List.mem_append_right _ (List.mem_append_right _ (List.mem_append_right _ (List.mem_append_right _ (List.mem_append_right _ (List.mem_append_right _ (List.mem_append_right _ (List.mem_append_left _ (List.mem_of_getElem? (i := 32) rfl))))))))))))
theorem wm_433 : Cond.instanceMethod y_M_deliver ∈ WT := (List.mem_append_right _ (List.mem_append_right _ (List.mem_append_right _ (List.mem_append_right _ (List.mem_append_right _ (List.mem_append_right _ (List.mem_append_right _ (List.mem_append_right _ (List.mem_append_right _ (List.mem_append_right _ (List.mem_append_left _ (List.mem_of_getElem? (i := 33) rfl))))))))))))
theorem wm_434 : Cond.code y_M_deliver prog_6_method_29_code 6 (some .boolean) ∈ WT := (List.mem_append_right _ (List.mem_append_right _ (List.mem_append_right _ (List.mem_append_right _ (List.mem_append_right _ (List.mem_append_right _ (List.mem_append_right _ (List.mem_append_right _ (List.mem_append_right _ (List.mem_append_right _ (List.mem_append_left _ (List.mem_of_getElem? (i := 34) rfl))))))))))))
theorem wm_435 : Cond.methodLink R_M 163 y_M_receive ∈ WT := (List.mem_append_right _ (List.mem_append_right _ (List.mem_append_right _ (List.mem_append_right _ (List.mem_append_right _ (List.mem_append_right _ (List.mem_append_right _ (List.mem_append_right _ (List.mem_append_right _ (List.mem_append_right _ (List.mem_append_left _ (List.mem_of_getElem? (i := 35) rfl))))))))))))
theorem wm_436 : Cond.instanceMethod y_M_receive ∈ WT := (List.mem_append_right _ (List.mem_append_right _ (List.mem_append_right _ (List.mem_append_right _ (List.mem_append_right _ (List.mem_append_right _ (List.mem_append_right _ (List.mem_append_right _ (List.mem_append_right _ (List.mem_append_right _ (List.mem_append_left _ (List.mem_of_getElem? (i := 36) rfl))))))))))))
theorem wm_437 : Cond.code y_M_receive prog_6_method_20_code 13 (some .int) ∈ WT := (List.mem_append_right _ (List.mem_append_right _ (List.mem_append_right _ (List.mem_append_right _ (List.mem_append_right _ (List.mem_append_right _ (List.mem_append_right _ (List.mem_append_right _ (List.mem_append_right _ (List.mem_append_right _ (List.mem_append_left _ (List.mem_of_getElem? (i := 37) rfl))))))))))))
theorem wm_438 : Cond.methodLink R_M 117 y_M_release ∈ WT := (List.mem_append_right _ (List.mem_append_right _ (List.mem_append_right _ (List.mem_append_right _ (List.mem_append_right _ (List.mem_append_right _ (List.mem_append_right _ (List.mem_append_right _ (List.mem_append_right _ (List.mem_append_right _ (List.mem_append_left _ (List.mem_of_getElem? (i := 38) rfl))))))))))))
theorem wm_439 : Cond.instanceMethod y_M_release ∈ WT := (List.mem_append_right _ (List.mem_append_right _ (List.mem_append_right _ (List.mem_append_right _ (List.mem_append_right _ (List.mem_append_right _ (List.mem_append_right _ (List.mem_append_right _ (List.mem_append_right _ (List.mem_append_right _ (List.mem_append_left _ (List.mem_of_getElem? (i := 39) rfl))))))))))))
theorem wm_440 : Cond.code y_M_release prog_6_method_22_code 6 none ∈ WT := (List.mem_append_right _ (List.mem_append_right _ (List.mem_append_right _ (List.mem_append_right _ (List.mem_append_right _ (List.mem_append_right _ (List.mem_append_right _ (List.mem_append_right _ (List.mem_append_right _ (List.mem_append_right _ (List.mem_append_right _ (List.mem_append_left _ (List.mem_of_getElem? (i := 0) rfl)))))))))))))
theorem wm_441 : Cond.methodLink R_M 136 y_M_forget ∈ WT := (List.mem_append_right _ (List.mem_append_right _ (List.mem_append_right _ (List.mem_append_right _ (List.mem_append_right _ (List.mem_append_right _ (List.mem_append_right _ (List.mem_append_right _ (List.mem_append_right _ (List.mem_append_right _ (List.mem_append_right _ (List.mem_append_left _ (List.mem_of_getElem? (i := 1) rfl)))))))))))))
theorem wm_442 : Cond.instanceMethod y_M_forget ∈ WT := (List.mem_append_right _ (List.mem_append_right _ (List.mem_append_right _ (List.mem_append_right _ (List.mem_append_right _ (List.mem_append_right _ (List.mem_append_right _ (List.mem_append_right _ (List.mem_append_right _ (List.mem_append_right _ (List.mem_append_right _ (List.mem_append_left _ (List.mem_of_getElem? (i := 2) rfl)))))))))))))
theorem wm_443 : Cond.code y_M_forget prog_6_method_23_code 6 none ∈ WT := (List.mem_append_right _ (List.mem_append_right _ (List.mem_append_right _ (List.mem_append_right _ (List.mem_append_right _ (List.mem_append_right _ (List.mem_append_right _ (List.mem_append_right _ (List.mem_append_right _ (List.mem_append_right _ (List.mem_append_right _ (List.mem_append_left _ (List.mem_of_getElem? (i := 3) rfl)))))))))))))
theorem wm_444 : Cond.methodLink R_M 120 y_M_burns ∈ WT := (List.mem_append_right _ (List.mem_append_right _ (List.mem_append_right _ (List.mem_append_right _ (List.mem_append_right _ (List.mem_append_right _ (List.mem_append_right _ (List.mem_append_right _ (List.mem_append_right _ (List.mem_append_right _ (List.mem_append_right _ (List.mem_append_left _ (List.mem_of_getElem? (i := 4) rfl)))))))))))))
theorem wm_445 : Cond.instanceMethod y_M_burns ∈ WT := (List.mem_append_right _ (List.mem_append_right _ (List.mem_append_right _ (List.mem_append_right _ (List.mem_append_right _ (List.mem_append_right _ (List.mem_append_right _ (List.mem_append_right _ (List.mem_append_right _ (List.mem_append_right _ (List.mem_append_right _ (List.mem_append_left _ (List.mem_of_getElem? (i := 5) rfl)))))))))))))
theorem wm_446 : Cond.code y_M_burns prog_6_method_16_code 2 (some .boolean) ∈ WT := (List.mem_append_right _ (List.mem_append_right _ (List.mem_append_right _ (List.mem_append_right _ (List.mem_append_right _ (List.mem_append_right _ (List.mem_append_right _ (List.mem_append_right _ (List.mem_append_right _ (List.mem_append_right _ (List.mem_append_right _ (List.mem_append_left _ (List.mem_of_getElem? (i := 6) rfl)))))))))))))
theorem wm_447 : Cond.methodLink R_M 95 y_M_fall ∈ WT := (List.mem_append_right _ (List.mem_append_right _ (List.mem_append_right _ (List.mem_append_right _ (List.mem_append_right _ (List.mem_append_right _ (List.mem_append_right _ (List.mem_append_right _ (List.mem_append_right _ (List.mem_append_right _ (List.mem_append_right _ (List.mem_append_left _ (List.mem_of_getElem? (i := 7) rfl)))))))))))))
theorem wm_448 : Cond.instanceMethod y_M_fall ∈ WT := (List.mem_append_right _ (List.mem_append_right _ (List.mem_append_right _ (List.mem_append_right _ (List.mem_append_right _ (List.mem_append_right _ (List.mem_append_right _ (List.mem_append_right _ (List.mem_append_right _ (List.mem_append_right _ (List.mem_append_right _ (List.mem_append_left _ (List.mem_of_getElem? (i := 8) rfl)))))))))))))
theorem wm_449 : Cond.code y_M_fall prog_6_method_15_code 3 none ∈ WT := (List.mem_append_right _ (List.mem_append_right _ (List.mem_append_right _ (List.mem_append_right _ (List.mem_append_right _ (List.mem_append_right _ (List.mem_append_right _ (List.mem_append_right _ (List.mem_append_right _ (List.mem_append_right _ (List.mem_append_right _ (List.mem_append_left _ (List.mem_of_getElem? (i := 9) rfl)))))))))))))
theorem wm_450 : Cond.methodLink R_M 124 y_M_many ∈ WT := (List.mem_append_right _ (List.mem_append_right _ (List.mem_append_right _ (List.mem_append_right _ (List.mem_append_right _ (List.mem_append_right _ (List.mem_append_right _ (List.mem_append_right _ (List.mem_append_right _ (List.mem_append_right _ (List.mem_append_right _ (List.mem_append_left _ (List.mem_of_getElem? (i := 10) rfl)))))))))))))
theorem wm_451 : Cond.instanceMethod y_M_many ∈ WT := (List.mem_append_right _ (List.mem_append_right _ (List.mem_append_right _ (List.mem_append_right _ (List.mem_append_right _ (List.mem_append_right _ (List.mem_append_right _ (List.mem_append_right _ (List.mem_append_right _ (List.mem_append_right _ (List.mem_append_right _ (List.mem_append_left _ (List.mem_of_getElem? (i := 11) rfl)))))))))))))
theorem wm_452 : Cond.code y_M_many prog_6_method_19_code 9 (some .int) ∈ WT := (List.mem_append_right _ (List.mem_append_right _ (List.mem_append_right _ (List.mem_append_right _ (List.mem_append_right _ (List.mem_append_right _ (List.mem_append_right _ (List.mem_append_right _ (List.mem_append_right _ (List.mem_append_right _ (List.mem_append_right _ (List.mem_append_left _ (List.mem_of_getElem? (i := 12) rfl)))))))))))))
theorem wm_453 : Cond.methodLink R_M 87 y_M_count ∈ WT := (List.mem_append_right _ (List.mem_append_right _ (List.mem_append_right _ (List.mem_append_right _ (List.mem_append_right _ (List.mem_append_right _ (List.mem_append_right _ (List.mem_append_right _ (List.mem_append_right _ (List.mem_append_right _ (List.mem_append_right _ (List.mem_append_left _ (List.mem_of_getElem? (i := 13) rfl)))))))))))))
theorem wm_454 : Cond.instanceMethod y_M_count ∈ WT := (List.mem_append_right _ (List.mem_append_right _ (List.mem_append_right _ (List.mem_append_right _ (List.mem_append_right _ (List.mem_append_right _ (List.mem_append_right _ (List.mem_append_right _ (List.mem_append_right _ (List.mem_append_right _ (List.mem_append_right _ (List.mem_append_left _ (List.mem_of_getElem? (i := 14) rfl)))))))))))))
theorem wm_455 : Cond.code y_M_count prog_6_method_12_code 5 (some .int) ∈ WT := (List.mem_append_right _ (List.mem_append_right _ (List.mem_append_right _ (List.mem_append_right _ (List.mem_append_right _ (List.mem_append_right _ (List.mem_append_right _ (List.mem_append_right _ (List.mem_append_right _ (List.mem_append_right _ (List.mem_append_right _ (List.mem_append_left _ (List.mem_of_getElem? (i := 15) rfl)))))))))))))
theorem wm_456 : Cond.methodLink R_M 128 y_M_apply ∈ WT := (List.mem_append_right _ (List.mem_append_right _ (List.mem_append_right _ (List.mem_append_right _ (List.mem_append_right _ (List.mem_append_right _ (List.mem_append_right _ (List.mem_append_right _ (List.mem_append_right _ (List.mem_append_right _ (List.mem_append_right _ (List.mem_append_left _ (List.mem_of_getElem? (i := 16) rfl)))))))))))))
theorem wm_457 : Cond.instanceMethod y_M_apply ∈ WT := (List.mem_append_right _ (List.mem_append_right _ (List.mem_append_right _ (List.mem_append_right _ (List.mem_append_right _ (List.mem_append_right _ (List.mem_append_right _ (List.mem_append_right _ (List.mem_append_right _ (List.mem_append_right _ (List.mem_append_right _ (List.mem_append_left _ (List.mem_of_getElem? (i := 17) rfl)))))))))))))
theorem wm_458 : Cond.code y_M_apply prog_6_method_21_code 9 (some .int) ∈ WT := (List.mem_append_right _ (List.mem_append_right _ (List.mem_append_right _ (List.mem_append_right _ (List.mem_append_right _ (List.mem_append_right _ (List.mem_append_right _ (List.mem_append_right _ (List.mem_append_right _ (List.mem_append_right _ (List.mem_append_right _ (List.mem_append_left _ (List.mem_of_getElem? (i := 18) rfl)))))))))))))
theorem wm_459 : Cond.methodLink R_M 132 y_M_valid ∈ WT := (List.mem_append_right _ (List.mem_append_right _ (List.mem_append_right _ (List.mem_append_right _ (List.mem_append_right _ (List.mem_append_right _ (List.mem_append_right _ (List.mem_append_right _ (List.mem_append_right _ (List.mem_append_right _ (List.mem_append_right _ (List.mem_append_left _ (List.mem_of_getElem? (i := 19) rfl)))))))))))))
theorem wm_460 : Cond.instanceMethod y_M_valid ∈ WT := (List.mem_append_right _ (List.mem_append_right _ (List.mem_append_right _ (List.mem_append_right _ (List.mem_append_right _ (List.mem_append_right _ (List.mem_append_right _ (List.mem_append_right _ (List.mem_append_right _ (List.mem_append_right _ (List.mem_append_right _ (List.mem_append_left _ (List.mem_of_getElem? (i := 20) rfl)))))))))))))
theorem wm_461 : Cond.code y_M_valid prog_6_method_14_code 6 (some .boolean) ∈ WT := (List.mem_append_right _ (List.mem_append_right _ (List.mem_append_right _ (List.mem_append_right _ (List.mem_append_right _ (List.mem_append_right _ (List.mem_append_right _ (List.mem_append_right _ (List.mem_append_right _ (List.mem_append_right _ (List.mem_append_right _ (List.mem_append_left _ (List.mem_of_getElem? (i := 21) rfl)))))))))))))
theorem wm_462 : Cond.methodLink R_M 91 y_M_worth ∈ WT := (List.mem_append_right _ (List.mem_append_right _ (List.mem_append_right _ (List.mem_append_right _ (List.mem_append_right _ (List.mem_append_right _ (List.mem_append_right _ (List.mem_append_right _ (List.mem_append_right _ (List.mem_append_right _ (List.mem_append_right _ (List.mem_append_left _ (List.mem_of_getElem? (i := 22) rfl)))))))))))))
theorem wm_463 : Cond.instanceMethod y_M_worth ∈ WT := (List.mem_append_right _ (List.mem_append_right _ (List.mem_append_right _ (List.mem_append_right _ (List.mem_append_right _ (List.mem_append_right _ (List.mem_append_right _ (List.mem_append_right _ (List.mem_append_right _ (List.mem_append_right _ (List.mem_append_right _ (List.mem_append_left _ (List.mem_of_getElem? (i := 23) rfl)))))))))))))
theorem wm_464 : Cond.code y_M_worth prog_6_method_13_code 9 (some .long) ∈ WT := (List.mem_append_right _ (List.mem_append_right _ (List.mem_append_right _ (List.mem_append_right _ (List.mem_append_right _ (List.mem_append_right _ (List.mem_append_right _ (List.mem_append_right _ (List.mem_append_right _ (List.mem_append_right _ (List.mem_append_right _ (List.mem_append_left _ (List.mem_of_getElem? (i := 24) rfl)))))))))))))
theorem wm_465 : Cond.methodLink R_L 42 y_M_carry ∈ WT := (List.mem_append_right _ (List.mem_append_right _ (List.mem_append_right _ (List.mem_append_right _ (List.mem_append_right _ (List.mem_append_right _ (List.mem_append_right _ (List.mem_append_right _ (List.mem_append_right _ (List.mem_append_right _ (List.mem_append_right _ (List.mem_append_left _ (List.mem_of_getElem? (i := 25) rfl)))))))))))))
theorem wm_466 : Cond.instanceMethod y_M_carry ∈ WT := (List.mem_append_right _ (List.mem_append_right _ (List.mem_append_right _ (List.mem_append_right _ (List.mem_append_right _ (List.mem_append_right _ (List.mem_append_right _ (List.mem_append_right _ (List.mem_append_right _ (List.mem_append_right _ (List.mem_append_right _ (List.mem_append_left _ (List.mem_of_getElem? (i := 26) rfl)))))))))))))
theorem wm_467 : Cond.selects R_M y_M_carry y_M_carry ∈ WT := (List.mem_append_right _ (List.mem_append_right _ (List.mem_append_right _ (List.mem_append_right _ (List.mem_append_right _ (List.mem_append_right _ (List.mem_append_right _ (List.mem_append_right _ (List.mem_append_right _ (List.mem_append_right _ (List.mem_append_right _ (List.mem_append_left _ (List.mem_of_getElem? (i := 27) rfl)))))))))))))
theorem wm_468 : Cond.code y_M_carry prog_6_method_31_code 8 (some .int) ∈ WT := (List.mem_append_right _ (List.mem_append_right _ (List.mem_append_right _ (List.mem_append_right _ (List.mem_append_right _ (List.mem_append_right _ (List.mem_append_right _ (List.mem_append_right _ (List.mem_append_right _ (List.mem_append_right _ (List.mem_append_right _ (List.mem_append_left _ (List.mem_of_getElem? (i := 28) rfl)))))))))))))
theorem wm_469 : Cond.methodLink R_L 37 y_M_forge ∈ WT := (List.mem_append_right _ (List.mem_append_right _ (List.mem_append_right _ (List.mem_append_right _ (List.mem_append_right _ (List.mem_append_right _ (List.mem_append_right _ (List.mem_append_right _ (List.mem_append_right _ (List.mem_append_right _ (List.mem_append_right _ (List.mem_append_left _ (List.mem_of_getElem? (i := 29) rfl)))))))))))))
theorem wm_470 : Cond.instanceMethod y_M_forge ∈ WT := (List.mem_append_right _ (List.mem_append_right _ (List.mem_append_right _ (List.mem_append_right _ (List.mem_append_right _ (List.mem_append_right _ (List.mem_append_right _ (List.mem_append_right _ (List.mem_append_right _ (List.mem_append_right _ (List.mem_append_right _ (List.mem_append_left _ (List.mem_of_getElem? (i := 30) rfl)))))))))))))
theorem wm_471 : Cond.selects R_M y_M_forge y_M_forge ∈ WT := (List.mem_append_right _ (List.mem_append_right _ (List.mem_append_right _ (List.mem_append_right _ (List.mem_append_right _ (List.mem_append_right _ (List.mem_append_right _ (List.mem_append_right _ (List.mem_append_right _ (List.mem_append_right _ (List.mem_append_right _ (List.mem_append_left _ (List.mem_of_getElem? (i := 31) rfl)))))))))))))
theorem wm_472 : Cond.code y_M_forge prog_6_method_32_code 6 (some .int) ∈ WT := (List.mem_append_right _ (List.mem_append_right _ (List.mem_append_right _ (List.mem_append_right _ (List.mem_append_right _ (List.mem_append_right _ (List.mem_append_right _ (List.mem_append_right _ (List.mem_append_right _ (List.mem_append_right _ (List.mem_append_right _ (List.mem_append_left _ (List.mem_of_getElem? (i := 32) rfl)))))))))))))
theorem wm_473 : Cond.methodLink R_L 25 y_M_submit ∈ WT := (List.mem_append_right _ (List.mem_append_right _ (List.mem_append_right _ (List.mem_append_right _ (List.mem_append_right _ (List.mem_append_right _ (List.mem_append_right _ (List.mem_append_right _ (List.mem_append_right _ (List.mem_append_right _ (List.mem_append_right _ (List.mem_append_left _ (List.mem_of_getElem? (i := 33) rfl)))))))))))))
theorem wm_474 : Cond.instanceMethod y_M_submit ∈ WT := (List.mem_append_right _ (List.mem_append_right _ (List.mem_append_right _ (List.mem_append_right _ (List.mem_append_right _ (List.mem_append_right _ (List.mem_append_right _ (List.mem_append_right _ (List.mem_append_right _ (List.mem_append_right _ (List.mem_append_right _ (List.mem_append_left _ (List.mem_of_getElem? (i := 34) rfl)))))))))))))
theorem wm_475 : Cond.selects R_M y_M_submit y_M_submit ∈ WT := (List.mem_append_right _ (List.mem_append_right _ (List.mem_append_right _ (List.mem_append_right _ (List.mem_append_right _ (List.mem_append_right _ (List.mem_append_right _ (List.mem_append_right _ (List.mem_append_right _ (List.mem_append_right _ (List.mem_append_right _ (List.mem_append_left _ (List.mem_of_getElem? (i := 35) rfl)))))))))))))
theorem wm_476 : Cond.code y_M_submit prog_6_method_33_code 14 (some .int) ∈ WT := (List.mem_append_right _ (List.mem_append_right _ (List.mem_append_right _ (List.mem_append_right _ (List.mem_append_right _ (List.mem_append_right _ (List.mem_append_right _ (List.mem_append_right _ (List.mem_append_right _ (List.mem_append_right _ (List.mem_append_right _ (List.mem_append_left _ (List.mem_of_getElem? (i := 36) rfl)))))))))))))
theorem wm_477 : Cond.constantLong R_M 170 (8) ∈ WT := (List.mem_append_right _ (List.mem_append_right _ (List.mem_append_right _ (List.mem_append_right _ (List.mem_append_right _ (List.mem_append_right _ (List.mem_append_right _ (List.mem_append_right _ (List.mem_append_right _ (List.mem_append_right _ (List.mem_append_right _ (List.mem_append_left _ (List.mem_of_getElem? (i := 37) rfl)))))))))))))
theorem wm_478 : Cond.methodLink R_L 30 y_M_corrupt ∈ WT := (List.mem_append_right _ (List.mem_append_right _ (List.mem_append_right _ (List.mem_append_right _ (List.mem_append_right _ (List.mem_append_right _ (List.mem_append_right _ (List.mem_append_right _ (List.mem_append_right _ (List.mem_append_right _ (List.mem_append_right _ (List.mem_append_left _ (List.mem_of_getElem? (i := 38) rfl)))))))))))))
theorem wm_479 : Cond.instanceMethod y_M_corrupt ∈ WT := (List.mem_append_right _ (List.mem_append_right _ (List.mem_append_right _ (List.mem_append_right _ (List.mem_append_right _ (List.mem_append_right _ (List.mem_append_right _ (List.mem_append_right _ (List.mem_append_right _ (List.mem_append_right _ (List.mem_append_right _ (List.mem_append_left _ (List.mem_of_getElem? (i := 39) rfl)))))))))))))
theorem wm_480 : Cond.selects R_M y_M_corrupt y_M_corrupt ∈ WT := (List.mem_append_right _ (List.mem_append_right _ (List.mem_append_right _ (List.mem_append_right _ (List.mem_append_right _ (List.mem_append_right _ (List.mem_append_right _ (List.mem_append_right _ (List.mem_append_right _ (List.mem_append_right _ (List.mem_append_right _ (List.mem_append_right _ (List.mem_append_left _ (List.mem_of_getElem? (i := 0) rfl))))))))))))))
theorem wm_481 : Cond.code y_M_corrupt prog_6_method_34_code 4 (some .boolean) ∈ WT := (List.mem_append_right _ (List.mem_append_right _ (List.mem_append_right _ (List.mem_append_right _ (List.mem_append_right _ (List.mem_append_right _ (List.mem_append_right _ (List.mem_append_right _ (List.mem_append_right _ (List.mem_append_right _ (List.mem_append_right _ (List.mem_append_right _ (List.mem_append_left _ (List.mem_of_getElem? (i := 1) rfl))))))))))))))
theorem wm_482 : Cond.methodLink R_L 56 y_M_crash ∈ WT := (List.mem_append_right _ (List.mem_append_right _ (List.mem_append_right _ (List.mem_append_right _ (List.mem_append_right _ (List.mem_append_right _ (List.mem_append_right _ (List.mem_append_right _ (List.mem_append_right _ (List.mem_append_right _ (List.mem_append_right _ (List.mem_append_right _ (List.mem_append_left _ (List.mem_of_getElem? (i := 2) rfl))))))))))))))
theorem wm_483 : Cond.instanceMethod y_M_crash ∈ WT := (List.mem_append_right _ (List.mem_append_right _ (List.mem_append_right _ (List.mem_append_right _ (List.mem_append_right _ (List.mem_append_right _ (List.mem_append_right _ (List.mem_append_right _ (List.mem_append_right _ (List.mem_append_right _ (List.mem_append_right _ (List.mem_append_right _ (List.mem_append_left _ (List.mem_of_getElem? (i := 3) rfl))))))))))))))
theorem wm_484 : Cond.selects R_M y_M_crash y_M_crash ∈ WT := (List.mem_append_right _ (List.mem_append_right _ (List.mem_append_right _ (List.mem_append_right _ (List.mem_append_right _ (List.mem_append_right _ (List.mem_append_right _ (List.mem_append_right _ (List.mem_append_right _ (List.mem_append_right _ (List.mem_append_right _ (List.mem_append_right _ (List.mem_append_left _ (List.mem_of_getElem? (i := 4) rfl))))))))))))))
theorem wm_485 : Cond.code y_M_crash prog_6_method_35_code 2 (some .boolean) ∈ WT := (List.mem_append_right _ (List.mem_append_right _ (List.mem_append_right _ (List.mem_append_right _ (List.mem_append_right _ (List.mem_append_right _ (List.mem_append_right _ (List.mem_append_right _ (List.mem_append_right _ (List.mem_append_right _ (List.mem_append_right _ (List.mem_append_right _ (List.mem_append_left _ (List.mem_of_getElem? (i := 5) rfl))))))))))))))
theorem wm_486 : Cond.methodLink R_L 60 y_M_restart ∈ WT := (List.mem_append_right _ (List.mem_append_right _ (List.mem_append_right _ (List.mem_append_right _ (List.mem_append_right _ (List.mem_append_right _ (List.mem_append_right _ (List.mem_append_right _ (List.mem_append_right _ (List.mem_append_right _ (List.mem_append_right _ (List.mem_append_right _ (List.mem_append_left _ (List.mem_of_getElem? (i := 6) rfl))))))))))))))
theorem wm_487 : Cond.instanceMethod y_M_restart ∈ WT := (List.mem_append_right _ (List.mem_append_right _ (List.mem_append_right _ (List.mem_append_right _ (List.mem_append_right _ (List.mem_append_right _ (List.mem_append_right _ (List.mem_append_right _ (List.mem_append_right _ (List.mem_append_right _ (List.mem_append_right _ (List.mem_append_right _ (List.mem_append_left _ (List.mem_of_getElem? (i := 7) rfl))))))))))))))
theorem wm_488 : Cond.selects R_M y_M_restart y_M_restart ∈ WT := (List.mem_append_right _ (List.mem_append_right _ (List.mem_append_right _ (List.mem_append_right _ (List.mem_append_right _ (List.mem_append_right _ (List.mem_append_right _ (List.mem_append_right _ (List.mem_append_right _ (List.mem_append_right _ (List.mem_append_right _ (List.mem_append_right _ (List.mem_append_left _ (List.mem_of_getElem? (i := 8) rfl))))))))))))))
theorem wm_489 : Cond.code y_M_restart prog_6_method_36_code 2 (some .boolean) ∈ WT := (List.mem_append_right _ (List.mem_append_right _ (List.mem_append_right _ (List.mem_append_right _ (List.mem_append_right _ (List.mem_append_right _ (List.mem_append_right _ (List.mem_append_right _ (List.mem_append_right _ (List.mem_append_right _ (List.mem_append_right _ (List.mem_append_right _ (List.mem_append_left _ (List.mem_of_getElem? (i := 9) rfl))))))))))))))
theorem wm_490 : Cond.methodLink R_L 65 y_M_fuse ∈ WT := (List.mem_append_right _ (List.mem_append_right _ (List.mem_append_right _ (List.mem_append_right _ (List.mem_append_right _ (List.mem_append_right _ (List.mem_append_right _ (List.mem_append_right _ (List.mem_append_right _ (List.mem_append_right _ (List.mem_append_right _ (List.mem_append_right _ (List.mem_append_left _ (List.mem_of_getElem? (i := 10) rfl))))))))))))))
theorem wm_491 : Cond.instanceMethod y_M_fuse ∈ WT := (List.mem_append_right _ (List.mem_append_right _ (List.mem_append_right _ (List.mem_append_right _ (List.mem_append_right _ (List.mem_append_right _ (List.mem_append_right _ (List.mem_append_right _ (List.mem_append_right _ (List.mem_append_right _ (List.mem_append_right _ (List.mem_append_right _ (List.mem_append_left _ (List.mem_of_getElem? (i := 11) rfl))))))))))))))
theorem wm_492 : Cond.selects R_M y_M_fuse y_M_fuse ∈ WT := (List.mem_append_right _ (List.mem_append_right _ (List.mem_append_right _ (List.mem_append_right _ (List.mem_append_right _ (List.mem_append_right _ (List.mem_append_right _ (List.mem_append_right _ (List.mem_append_right _ (List.mem_append_right _ (List.mem_append_right _ (List.mem_append_right _ (List.mem_append_left _ (List.mem_of_getElem? (i := 12) rfl))))))))))))))
theorem wm_493 : Cond.code y_M_fuse prog_6_method_37_code 3 (some .boolean) ∈ WT := (List.mem_append_right _ (List.mem_append_right _ (List.mem_append_right _ (List.mem_append_right _ (List.mem_append_right _ (List.mem_append_right _ (List.mem_append_right _ (List.mem_append_right _ (List.mem_append_right _ (List.mem_append_right _ (List.mem_append_right _ (List.mem_append_right _ (List.mem_append_left _ (List.mem_of_getElem? (i := 13) rfl))))))))))))))
theorem wm_494 : Cond.methodLink R_L 69 y_M_mark ∈ WT := (List.mem_append_right _ (List.mem_append_right _ (List.mem_append_right _ (List.mem_append_right _ (List.mem_append_right _ (List.mem_append_right _ (List.mem_append_right _ (List.mem_append_right _ (List.mem_append_right _ (List.mem_append_right _ (List.mem_append_right _ (List.mem_append_right _ (List.mem_append_left _ (List.mem_of_getElem? (i := 14) rfl))))))))))))))
theorem wm_495 : Cond.instanceMethod y_M_mark ∈ WT := (List.mem_append_right _ (List.mem_append_right _ (List.mem_append_right _ (List.mem_append_right _ (List.mem_append_right _ (List.mem_append_right _ (List.mem_append_right _ (List.mem_append_right _ (List.mem_append_right _ (List.mem_append_right _ (List.mem_append_right _ (List.mem_append_right _ (List.mem_append_left _ (List.mem_of_getElem? (i := 15) rfl))))))))))))))
theorem wm_496 : Cond.selects R_M y_M_mark y_M_mark ∈ WT := (List.mem_append_right _ (List.mem_append_right _ (List.mem_append_right _ (List.mem_append_right _ (List.mem_append_right _ (List.mem_append_right _ (List.mem_append_right _ (List.mem_append_right _ (List.mem_append_right _ (List.mem_append_right _ (List.mem_append_right _ (List.mem_append_right _ (List.mem_append_left _ (List.mem_of_getElem? (i := 16) rfl))))))))))))))
theorem wm_497 : Cond.code y_M_mark prog_6_method_38_code 4 (some .int) ∈ WT := (List.mem_append_right _ (List.mem_append_right _ (List.mem_append_right _ (List.mem_append_right _ (List.mem_append_right _ (List.mem_append_right _ (List.mem_append_right _ (List.mem_append_right _ (List.mem_append_right _ (List.mem_append_right _ (List.mem_append_right _ (List.mem_append_right _ (List.mem_append_left _ (List.mem_of_getElem? (i := 17) rfl))))))))))))))
theorem wm_498 : Cond.methodLink R_L 74 y_M_sent ∈ WT := (List.mem_append_right _ (List.mem_append_right _ (List.mem_append_right _ (List.mem_append_right _ (List.mem_append_right _ (List.mem_append_right _ (List.mem_append_right _ (List.mem_append_right _ (List.mem_append_right _ (List.mem_append_right _ (List.mem_append_right _ (List.mem_append_right _ (List.mem_append_left _ (List.mem_of_getElem? (i := 18) rfl))))))))))))))
theorem wm_499 : Cond.instanceMethod y_M_sent ∈ WT := (List.mem_append_right _ (List.mem_append_right _ (List.mem_append_right _ (List.mem_append_right _ (List.mem_append_right _ (List.mem_append_right _ (List.mem_append_right _ (List.mem_append_right _ (List.mem_append_right _ (List.mem_append_right _ (List.mem_append_right _ (List.mem_append_right _ (List.mem_append_left _ (List.mem_of_getElem? (i := 19) rfl))))))))))))))
theorem wm_500 : Cond.selects R_M y_M_sent y_M_sent ∈ WT := (List.mem_append_right _ (List.mem_append_right _ (List.mem_append_right _ (List.mem_append_right _ (List.mem_append_right _ (List.mem_append_right _ (List.mem_append_right _ (List.mem_append_right _ (List.mem_append_right _ (List.mem_append_right _ (List.mem_append_right _ (List.mem_append_right _ (List.mem_append_left _ (List.mem_of_getElem? (i := 20) rfl))))))))))))))
theorem wm_501 : Cond.code y_M_sent prog_6_method_39_code 5 (some .long) ∈ WT := (List.mem_append_right _ (List.mem_append_right _ (List.mem_append_right _ (List.mem_append_right _ (List.mem_append_right _ (List.mem_append_right _ (List.mem_append_right _ (List.mem_append_right _ (List.mem_append_right _ (List.mem_append_right _ (List.mem_append_right _ (List.mem_append_right _ (List.mem_append_left _ (List.mem_of_getElem? (i := 21) rfl))))))))))))))
theorem wm_502 : Cond.methodLink R_L 79 y_M_heard ∈ WT := (List.mem_append_right _ (List.mem_append_right _ (List.mem_append_right _ (List.mem_append_right _ (List.mem_append_right _ (List.mem_append_right _ (List.mem_append_right _ (List.mem_append_right _ (List.mem_append_right _ (List.mem_append_right _ (List.mem_append_right _ (List.mem_append_right _ (List.mem_append_left _ (List.mem_of_getElem? (i := 22) rfl))))))))))))))
theorem wm_503 : Cond.instanceMethod y_M_heard ∈ WT := (List.mem_append_right _ (List.mem_append_right _ (List.mem_append_right _ (List.mem_append_right _ (List.mem_append_right _ (List.mem_append_right _ (List.mem_append_right _ (List.mem_append_right _ (List.mem_append_right _ (List.mem_append_right _ (List.mem_append_right _ (List.mem_append_right _ (List.mem_append_left _ (List.mem_of_getElem? (i := 23) rfl))))))))))))))
theorem wm_504 : Cond.selects R_M y_M_heard y_M_heard ∈ WT := (List.mem_append_right _ (List.mem_append_right _ (List.mem_append_right _ (List.mem_append_right _ (List.mem_append_right _ (List.mem_append_right _ (List.mem_append_right _ (List.mem_append_right _ (List.mem_append_right _ (List.mem_append_right _ (List.mem_append_right _ (List.mem_append_right _ (List.mem_append_left _ (List.mem_of_getElem? (i := 24) rfl))))))))))))))
theorem wm_505 : Cond.code y_M_heard prog_6_method_40_code 10 (some .int) ∈ WT := (List.mem_append_right _ (List.mem_append_right _ (List.mem_append_right _ (List.mem_append_right _ (List.mem_append_right _ (List.mem_append_right _ (List.mem_append_right _ (List.mem_append_right _ (List.mem_append_right _ (List.mem_append_right _ (List.mem_append_right _ (List.mem_append_right _ (List.mem_append_left _ (List.mem_of_getElem? (i := 25) rfl))))))))))))))
theorem wm_506 : Cond.methodLink R_L 84 y_M_accepted ∈ WT := (List.mem_append_right _ (List.mem_append_right _ (List.mem_append_right _ (List.mem_append_right _ (List.mem_append_right _ (List.mem_append_right _ (List.mem_append_right _ (List.mem_append_right _ (List.mem_append_right _ (List.mem_append_right _ (List.mem_append_right _ (List.mem_append_right _ (List.mem_append_left _ (List.mem_of_getElem? (i := 26) rfl))))))))))))))
theorem wm_507 : Cond.instanceMethod y_M_accepted ∈ WT := (List.mem_append_right _ (List.mem_append_right _ (List.mem_append_right _ (List.mem_append_right _ (List.mem_append_right _ (List.mem_append_right _ (List.mem_append_right _ (List.mem_append_right _ (List.mem_append_right _ (List.mem_append_right _ (List.mem_append_right _ (List.mem_append_right _ (List.mem_append_left _ (List.mem_of_getElem? (i := 27) rfl))))))))))))))
theorem wm_508 : Cond.selects R_M y_M_accepted y_M_accepted ∈ WT := (List.mem_append_right _ (List.mem_append_right _ (List.mem_append_right _ (List.mem_append_right _ (List.mem_append_right _ (List.mem_append_right _ (List.mem_append_right _ (List.mem_append_right _ (List.mem_append_right _ (List.mem_append_right _ (List.mem_append_right _ (List.mem_append_right _ (List.mem_append_left _ (List.mem_of_getElem? (i := 28) rfl))))))))))))))
theorem wm_509 : Cond.code y_M_accepted prog_6_method_41_code 4 (some .long) ∈ WT := (List.mem_append_right _ (List.mem_append_right _ (List.mem_append_right _ (List.mem_append_right _ (List.mem_append_right _ (List.mem_append_right _ (List.mem_append_right _ (List.mem_append_right _ (List.mem_append_right _ (List.mem_append_right _ (List.mem_append_right _ (List.mem_append_right _ (List.mem_append_left _ (List.mem_of_getElem? (i := 29) rfl))))))))))))))
theorem wm_510 : Cond.methodLink R_L 89 y_M_applied ∈ WT := (List.mem_append_right _ (List.mem_append_right _ (List.mem_append_right _ (List.mem_append_right _ (List.mem_append_right _ (List.mem_append_right _ (List.mem_append_right _ (List.mem_append_right _ (List.mem_append_right _ (List.mem_append_right _ (List.mem_append_right _ (List.mem_append_right _ (List.mem_append_left _ (List.mem_of_getElem? (i := 30) rfl))))))))))))))
theorem wm_511 : Cond.instanceMethod y_M_applied ∈ WT := (List.mem_append_right _ (List.mem_append_right _ (List.mem_append_right _ (List.mem_append_right _ (List.mem_append_right _ (List.mem_append_right _ (List.mem_append_right _ (List.mem_append_right _ (List.mem_append_right _ (List.mem_append_right _ (List.mem_append_right _ (List.mem_append_right _ (List.mem_append_left _ (List.mem_of_getElem? (i := 31) rfl))))))))))))))
theorem wm_512 : Cond.selects R_M y_M_applied y_M_applied ∈ WT := (List.mem_append_right _ (List.mem_append_right _ (List.mem_append_right _ (List.mem_append_right _ (List.mem_append_right _ (List.mem_append_right _ (List.mem_append_right _ (List.mem_append_right _ (List.mem_append_right _ (List.mem_append_right _ (List.mem_append_right _ (List.mem_append_right _ (List.mem_append_left _ (List.mem_of_getElem? (i := 32) rfl))))))))))))))
theorem wm_513 : Cond.code y_M_applied prog_6_method_42_code 3 (some .int) ∈ WT := (List.mem_append_right _ (List.mem_append_right _ (List.mem_append_right _ (List.mem_append_right _ (List.mem_append_right _ (List.mem_append_right _ (List.mem_append_right _ (List.mem_append_right _ (List.mem_append_right _ (List.mem_append_right _ (List.mem_append_right _ (List.mem_append_right _ (List.mem_append_left _ (List.mem_of_getElem? (i := 33) rfl))))))))))))))
theorem wm_514 : Cond.methodLink R_L 94 y_M_balance ∈ WT := (List.mem_append_right _ (List.mem_append_right _ (List.mem_append_right _ (List.mem_append_right _ (List.mem_append_right _ (List.mem_append_right _ (List.mem_append_right _ (List.mem_append_right _ (List.mem_append_right _ (List.mem_append_right _ (List.mem_append_right _ (List.mem_append_right _ (List.mem_append_left _ (List.mem_of_getElem? (i := 34) rfl))))))))))))))
theorem wm_515 : Cond.instanceMethod y_M_balance ∈ WT := (List.mem_append_right _ (List.mem_append_right _ (List.mem_append_right _ (List.mem_append_right _ (List.mem_append_right _ (List.mem_append_right _ (List.mem_append_right _ (List.mem_append_right _ (List.mem_append_right _ (List.mem_append_right _ (List.mem_append_right _ (List.mem_append_right _ (List.mem_append_left _ (List.mem_of_getElem? (i := 35) rfl))))))))))))))
theorem wm_516 : Cond.selects R_M y_M_balance y_M_balance ∈ WT := (List.mem_append_right _ (List.mem_append_right _ (List.mem_append_right _ (List.mem_append_right _ (List.mem_append_right _ (List.mem_append_right _ (List.mem_append_right _ (List.mem_append_right _ (List.mem_append_right _ (List.mem_append_right _ (List.mem_append_right _ (List.mem_append_right _ (List.mem_append_left _ (List.mem_of_getElem? (i := 36) rfl))))))))))))))
theorem wm_517 : Cond.code y_M_balance prog_6_method_43_code 3 (some .long) ∈ WT := (List.mem_append_right _ (List.mem_append_right _ (List.mem_append_right _ (List.mem_append_right _ (List.mem_append_right _ (List.mem_append_right _ (List.mem_append_right _ (List.mem_append_right _ (List.mem_append_right _ (List.mem_append_right _ (List.mem_append_right _ (List.mem_append_right _ (List.mem_append_left _ (List.mem_of_getElem? (i := 37) rfl))))))))))))))
theorem wm_518 : Cond.methodLink R_L 98 y_M_freed ∈ WT := (List.mem_append_right _ (List.mem_append_right _ (List.mem_append_right _ (List.mem_append_right _ (List.mem_append_right _ (List.mem_append_right _ (List.mem_append_right _ (List.mem_append_right _ (List.mem_append_right _ (List.mem_append_right _ (List.mem_append_right _ (List.mem_append_right _ (List.mem_append_left _ (List.mem_of_getElem? (i := 38) rfl))))))))))))))
theorem wm_519 : Cond.instanceMethod y_M_freed ∈ WT := (List.mem_append_right _ (List.mem_append_right _ (List.mem_append_right _ (List.mem_append_right _ (List.mem_append_right _ (List.mem_append_right _ (List.mem_append_right _ (List.mem_append_right _ (List.mem_append_right _ (List.mem_append_right _ (List.mem_append_right _ (List.mem_append_right _ (List.mem_append_left _ (List.mem_of_getElem? (i := 39) rfl))))))))))))))
theorem wm_520 : Cond.selects R_M y_M_freed y_M_freed ∈ WT := (List.mem_append_right _ (List.mem_append_right _ (List.mem_append_right _ (List.mem_append_right _ (List.mem_append_right _ (List.mem_append_right _ (List.mem_append_right _ (List.mem_append_right _ (List.mem_append_right _ (List.mem_append_right _ (List.mem_append_right _ (List.mem_append_right _ (List.mem_append_right _ (List.mem_append_left _ (List.mem_of_getElem? (i := 0) rfl)))))))))))))))
theorem wm_521 : Cond.code y_M_freed prog_6_method_44_code 3 (some .int) ∈ WT := (List.mem_append_right _ (List.mem_append_right _ (List.mem_append_right _ (List.mem_append_right _ (List.mem_append_right _ (List.mem_append_right _ (List.mem_append_right _ (List.mem_append_right _ (List.mem_append_right _ (List.mem_append_right _ (List.mem_append_right _ (List.mem_append_right _ (List.mem_append_right _ (List.mem_append_left _ (List.mem_of_getElem? (i := 1) rfl)))))))))))))))
theorem wm_522 : Cond.methodLink R_L 102 y_M_kept ∈ WT := (List.mem_append_right _ (List.mem_append_right _ (List.mem_append_right _ (List.mem_append_right _ (List.mem_append_right _ (List.mem_append_right _ (List.mem_append_right _ (List.mem_append_right _ (List.mem_append_right _ (List.mem_append_right _ (List.mem_append_right _ (List.mem_append_right _ (List.mem_append_right _ (List.mem_append_left _ (List.mem_of_getElem? (i := 2) rfl)))))))))))))))
theorem wm_523 : Cond.instanceMethod y_M_kept ∈ WT := (List.mem_append_right _ (List.mem_append_right _ (List.mem_append_right _ (List.mem_append_right _ (List.mem_append_right _ (List.mem_append_right _ (List.mem_append_right _ (List.mem_append_right _ (List.mem_append_right _ (List.mem_append_right _ (List.mem_append_right _ (List.mem_append_right _ (List.mem_append_right _ (List.mem_append_left _ (List.mem_of_getElem? (i := 3) rfl)))))))))))))))
theorem wm_524 : Cond.selects R_M y_M_kept y_M_kept ∈ WT := (List.mem_append_right _ (List.mem_append_right _ (List.mem_append_right _ (List.mem_append_right _ (List.mem_append_right _ (List.mem_append_right _ (List.mem_append_right _ (List.mem_append_right _ (List.mem_append_right _ (List.mem_append_right _ (List.mem_append_right _ (List.mem_append_right _ (List.mem_append_right _ (List.mem_append_left _ (List.mem_of_getElem? (i := 4) rfl)))))))))))))))
theorem wm_525 : Cond.code y_M_kept prog_6_method_45_code 7 (some .int) ∈ WT := (List.mem_append_right _ (List.mem_append_right _ (List.mem_append_right _ (List.mem_append_right _ (List.mem_append_right _ (List.mem_append_right _ (List.mem_append_right _ (List.mem_append_right _ (List.mem_append_right _ (List.mem_append_right _ (List.mem_append_right _ (List.mem_append_right _ (List.mem_append_right _ (List.mem_append_left _ (List.mem_of_getElem? (i := 5) rfl)))))))))))))))
theorem wm_526 : Cond.methodLink R_M 172 y_M_heard ∈ WT := (List.mem_append_right _ (List.mem_append_right _ (List.mem_append_right _ (List.mem_append_right _ (List.mem_append_right _ (List.mem_append_right _ (List.mem_append_right _ (List.mem_append_right _ (List.mem_append_right _ (List.mem_append_right _ (List.mem_append_right _ (List.mem_append_right _ (List.mem_append_right _ (List.mem_append_left _ (List.mem_of_getElem? (i := 6) rfl)))))))))))))))
theorem wm_527 : Cond.methodLink R_L 106 y_M_state ∈ WT := (List.mem_append_right _ (List.mem_append_right _ (List.mem_append_right _ (List.mem_append_right _ (List.mem_append_right _ (List.mem_append_right _ (List.mem_append_right _ (List.mem_append_right _ (List.mem_append_right _ (List.mem_append_right _ (List.mem_append_right _ (List.mem_append_right _ (List.mem_append_right _ (List.mem_append_left _ (List.mem_of_getElem? (i := 7) rfl)))))))))))))))
theorem wm_528 : Cond.instanceMethod y_M_state ∈ WT := (List.mem_append_right _ (List.mem_append_right _ (List.mem_append_right _ (List.mem_append_right _ (List.mem_append_right _ (List.mem_append_right _ (List.mem_append_right _ (List.mem_append_right _ (List.mem_append_right _ (List.mem_append_right _ (List.mem_append_right _ (List.mem_append_right _ (List.mem_append_right _ (List.mem_append_left _ (List.mem_of_getElem? (i := 8) rfl)))))))))))))))
theorem wm_529 : Cond.selects R_M y_M_state y_M_state ∈ WT := (List.mem_append_right _ (List.mem_append_right _ (List.mem_append_right _ (List.mem_append_right _ (List.mem_append_right _ (List.mem_append_right _ (List.mem_append_right _ (List.mem_append_right _ (List.mem_append_right _ (List.mem_append_right _ (List.mem_append_right _ (List.mem_append_right _ (List.mem_append_right _ (List.mem_append_left _ (List.mem_of_getElem? (i := 9) rfl)))))))))))))))
theorem wm_530 : Cond.code y_M_state prog_6_method_46_code 2 (some .int) ∈ WT := (List.mem_append_right _ (List.mem_append_right _ (List.mem_append_right _ (List.mem_append_right _ (List.mem_append_right _ (List.mem_append_right _ (List.mem_append_right _ (List.mem_append_right _ (List.mem_append_right _ (List.mem_append_right _ (List.mem_append_right _ (List.mem_append_right _ (List.mem_append_right _ (List.mem_append_left _ (List.mem_of_getElem? (i := 10) rfl)))))))))))))))
theorem wm_531 : Cond.constantLong R_L 31 (4294967295) ∈ WT := (List.mem_append_right _ (List.mem_append_right _ (List.mem_append_right _ (List.mem_append_right _ (List.mem_append_right _ (List.mem_append_right _ (List.mem_append_right _ (List.mem_append_right _ (List.mem_append_right _ (List.mem_append_right _ (List.mem_append_right _ (List.mem_append_right _ (List.mem_append_right _ (List.mem_append_left _ (List.mem_of_getElem? (i := 11) rfl)))))))))))))))
theorem wm_532 : Cond.selects R_E y_E_isUp y_E_isUp ∈ WT := (List.mem_append_right _ (List.mem_append_right _ (List.mem_append_right _ (List.mem_append_right _ (List.mem_append_right _ (List.mem_append_right _ (List.mem_append_right _ (List.mem_append_right _ (List.mem_append_right _ (List.mem_append_right _ (List.mem_append_right _ (List.mem_append_right _ (List.mem_append_right _ (List.mem_append_left _ (List.mem_of_getElem? (i := 12) rfl)))))))))))))))
theorem wm_533 : Cond.selects R_E y_E_isNode y_E_isNode ∈ WT := (List.mem_append_right _ (List.mem_append_right _ (List.mem_append_right _ (List.mem_append_right _ (List.mem_append_right _ (List.mem_append_right _ (List.mem_append_right _ (List.mem_append_right _ (List.mem_append_right _ (List.mem_append_right _ (List.mem_append_right _ (List.mem_append_right _ (List.mem_append_right _ (List.mem_append_left _ (List.mem_of_getElem? (i := 13) rfl)))))))))))))))
theorem wm_534 : Cond.selects R_N y_N_spendable y_N_spendable ∈ WT := (List.mem_append_right _ (List.mem_append_right _ (List.mem_append_right _ (List.mem_append_right _ (List.mem_append_right _ (List.mem_append_right _ (List.mem_append_right _ (List.mem_append_right _ (List.mem_append_right _ (List.mem_append_right _ (List.mem_append_right _ (List.mem_append_right _ (List.mem_append_right _ (List.mem_append_left _ (List.mem_of_getElem? (i := 14) rfl)))))))))))))))
theorem wm_535 : Cond.selects R_N y_N_needs y_N_needs ∈ WT := (List.mem_append_right _ (List.mem_append_right _ (List.mem_append_right _ (List.mem_append_right _ (List.mem_append_right _ (List.mem_append_right _ (List.mem_append_right _ (List.mem_append_right _ (List.mem_append_right _ (List.mem_append_right _ (List.mem_append_right _ (List.mem_append_right _ (List.mem_append_right _ (List.mem_append_left _ (List.mem_of_getElem? (i := 15) rfl)))))))))))))))
theorem wm_536 : Cond.selects R_N y_N_lastPaymentBy y_N_lastPaymentBy ∈ WT := (List.mem_append_right _ (List.mem_append_right _ (List.mem_append_right _ (List.mem_append_right _ (List.mem_append_right _ (List.mem_append_right _ (List.mem_append_right _ (List.mem_append_right _ (List.mem_append_right _ (List.mem_append_right _ (List.mem_append_right _ (List.mem_append_right _ (List.mem_append_right _ (List.mem_append_left _ (List.mem_of_getElem? (i := 16) rfl)))))))))))))))
theorem wm_537 : Cond.selects R_N y_N_write y_N_write ∈ WT := (List.mem_append_right _ (List.mem_append_right _ (List.mem_append_right _ (List.mem_append_right _ (List.mem_append_right _ (List.mem_append_right _ (List.mem_append_right _ (List.mem_append_right _ (List.mem_append_right _ (List.mem_append_right _ (List.mem_append_right _ (List.mem_append_right _ (List.mem_append_right _ (List.mem_append_left _ (List.mem_of_getElem? (i := 17) rfl)))))))))))))))
theorem wm_538 : Cond.selects R_E y_E_isCorrect y_E_isCorrect ∈ WT := (List.mem_append_right _ (List.mem_append_right _ (List.mem_append_right _ (List.mem_append_right _ (List.mem_append_right _ (List.mem_append_right _ (List.mem_append_right _ (List.mem_append_right _ (List.mem_append_right _ (List.mem_append_right _ (List.mem_append_right _ (List.mem_append_right _ (List.mem_append_right _ (List.mem_append_left _ (List.mem_of_getElem? (i := 18) rfl)))))))))))))))
theorem wm_539 : Cond.selects R_E y_E_topicOf y_E_topicOf ∈ WT := (List.mem_append_right _ (List.mem_append_right _ (List.mem_append_right _ (List.mem_append_right _ (List.mem_append_right _ (List.mem_append_right _ (List.mem_append_right _ (List.mem_append_right _ (List.mem_append_right _ (List.mem_append_right _ (List.mem_append_right _ (List.mem_append_right _ (List.mem_append_right _ (List.mem_append_left _ (List.mem_of_getElem? (i := 19) rfl)))))))))))))))
theorem wm_540 : Cond.selects R_N y_N_isWellFormed y_N_isWellFormed ∈ WT := (List.mem_append_right _ (List.mem_append_right _ (List.mem_append_right _ (List.mem_append_right _ (List.mem_append_right _ (List.mem_append_right _ (List.mem_append_right _ (List.mem_append_right _ (List.mem_append_right _ (List.mem_append_right _ (List.mem_append_right _ (List.mem_append_right _ (List.mem_append_right _ (List.mem_append_left _ (List.mem_of_getElem? (i := 20) rfl)))))))))))))))
theorem wm_541 : Cond.selects R_N y_N_objection y_N_objection ∈ WT := (List.mem_append_right _ (List.mem_append_right _ (List.mem_append_right _ (List.mem_append_right _ (List.mem_append_right _ (List.mem_append_right _ (List.mem_append_right _ (List.mem_append_right _ (List.mem_append_right _ (List.mem_append_right _ (List.mem_append_right _ (List.mem_append_right _ (List.mem_append_right _ (List.mem_append_left _ (List.mem_of_getElem? (i := 21) rfl)))))))))))))))
theorem wm_542 : Cond.selects R_N y_N_take y_N_take ∈ WT := (List.mem_append_right _ (List.mem_append_right _ (List.mem_append_right _ (List.mem_append_right _ (List.mem_append_right _ (List.mem_append_right _ (List.mem_append_right _ (List.mem_append_right _ (List.mem_append_right _ (List.mem_append_right _ (List.mem_append_right _ (List.mem_append_right _ (List.mem_append_right _ (List.mem_append_left _ (List.mem_of_getElem? (i := 22) rfl)))))))))))))))
theorem wm_543 : Cond.selects R_N y_N_freeWhatIsMarked y_N_freeWhatIsMarked ∈ WT := (List.mem_append_right _ (List.mem_append_right _ (List.mem_append_right _ (List.mem_append_right _ (List.mem_append_right _ (List.mem_append_right _ (List.mem_append_right _ (List.mem_append_right _ (List.mem_append_right _ (List.mem_append_right _ (List.mem_append_right _ (List.mem_append_right _ (List.mem_append_right _ (List.mem_append_left _ (List.mem_of_getElem? (i := 23) rfl)))))))))))))))
theorem wm_544 : Cond.selects R_N y_N_countTellersOf y_N_countTellersOf ∈ WT := (List.mem_append_right _ (List.mem_append_right _ (List.mem_append_right _ (List.mem_append_right _ (List.mem_append_right _ (List.mem_append_right _ (List.mem_append_right _ (List.mem_append_right _ (List.mem_append_right _ (List.mem_append_right _ (List.mem_append_right _ (List.mem_append_right _ (List.mem_append_right _ (List.mem_append_left _ (List.mem_of_getElem? (i := 24) rfl)))))))))))))))
theorem wm_545 : Cond.selects R_N y_N_forget y_N_forget ∈ WT := (List.mem_append_right _ (List.mem_append_right _ (List.mem_append_right _ (List.mem_append_right _ (List.mem_append_right _ (List.mem_append_right _ (List.mem_append_right _ (List.mem_append_right _ (List.mem_append_right _ (List.mem_append_right _ (List.mem_append_right _ (List.mem_append_right _ (List.mem_append_right _ (List.mem_append_left _ (List.mem_of_getElem? (i := 25) rfl)))))))))))))))
theorem wm_546 : Cond.selects R_N y_N_callsForReady y_N_callsForReady ∈ WT := (List.mem_append_right _ (List.mem_append_right _ (List.mem_append_right _ (List.mem_append_right _ (List.mem_append_right _ (List.mem_append_right _ (List.mem_append_right _ (List.mem_append_right _ (List.mem_append_right _ (List.mem_append_right _ (List.mem_append_right _ (List.mem_append_right _ (List.mem_append_right _ (List.mem_append_left _ (List.mem_of_getElem? (i := 26) rfl)))))))))))))))
theorem wm_547 : Cond.selects R_N y_N_isAcceptable y_N_isAcceptable ∈ WT := (List.mem_append_right _ (List.mem_append_right _ (List.mem_append_right _ (List.mem_append_right _ (List.mem_append_right _ (List.mem_append_right _ (List.mem_append_right _ (List.mem_append_right _ (List.mem_append_right _ (List.mem_append_right _ (List.mem_append_right _ (List.mem_append_right _ (List.mem_append_right _ (List.mem_append_left _ (List.mem_of_getElem? (i := 27) rfl)))))))))))))))
theorem wm_548 : Cond.selects R_N y_N_applyWhatIsValid y_N_applyWhatIsValid ∈ WT := (List.mem_append_right _ (List.mem_append_right _ (List.mem_append_right _ (List.mem_append_right _ (List.mem_append_right _ (List.mem_append_right _ (List.mem_append_right _ (List.mem_append_right _ (List.mem_append_right _ (List.mem_append_right _ (List.mem_append_right _ (List.mem_append_right _ (List.mem_append_right _ (List.mem_append_left _ (List.mem_of_getElem? (i := 28) rfl)))))))))))))))
theorem wm_549 : Cond.selects R_N y_N_leastPayer y_N_leastPayer ∈ WT := (List.mem_append_right _ (List.mem_append_right _ (List.mem_append_right _ (List.mem_append_right _ (List.mem_append_right _ (List.mem_append_right _ (List.mem_append_right _ (List.mem_append_right _ (List.mem_append_right _ (List.mem_append_right _ (List.mem_append_right _ (List.mem_append_right _ (List.mem_append_right _ (List.mem_append_left _ (List.mem_of_getElem? (i := 29) rfl)))))))))))))))
theorem wm_550 : Cond.selects R_N y_N_isValid y_N_isValid ∈ WT := (List.mem_append_right _ (List.mem_append_right _ (List.mem_append_right _ (List.mem_append_right _ (List.mem_append_right _ (List.mem_append_right _ (List.mem_append_right _ (List.mem_append_right _ (List.mem_append_right _ (List.mem_append_right _ (List.mem_append_right _ (List.mem_append_right _ (List.mem_append_right _ (List.mem_append_left _ (List.mem_of_getElem? (i := 30) rfl)))))))))))))))
theorem wm_551 : Cond.selects R_N y_N_pay y_N_pay ∈ WT := (List.mem_append_right _ (List.mem_append_right _ (List.mem_append_right _ (List.mem_append_right _ (List.mem_append_right _ (List.mem_append_right _ (List.mem_append_right _ (List.mem_append_right _ (List.mem_append_right _ (List.mem_append_right _ (List.mem_append_right _ (List.mem_append_right _ (List.mem_append_right _ (List.mem_append_left _ (List.mem_of_getElem? (i := 31) rfl)))))))))))))))
theorem wm_552 : Cond.selects R_E y_E_firstPending y_E_firstPending ∈ WT := (List.mem_append_right _ (List.mem_append_right _ (List.mem_append_right _ (List.mem_append_right _ (List.mem_append_right _ (List.mem_append_right _ (List.mem_append_right _ (List.mem_append_right _ (List.mem_append_right _ (List.mem_append_right _ (List.mem_append_right _ (List.mem_append_right _ (List.mem_append_right _ (List.mem_append_left _ (List.mem_of_getElem? (i := 32) rfl)))))))))))))))
theorem wm_553 : Cond.selects R_E y_E_takers y_E_takers ∈ WT := (List.mem_append_right _ (List.mem_append_right _ (List.mem_append_right _ (List.mem_append_right _ (List.mem_append_right _ (List.mem_append_right _ (List.mem_append_right _ (List.mem_append_right _ (List.mem_append_right _ (List.mem_append_right _ (List.mem_append_right _ (List.mem_append_right _ (List.mem_append_right _ (List.mem_append_left _ (List.mem_of_getElem? (i := 33) rfl)))))))))))))))
theorem wm_554 : Cond.selects R_N y_N_keeps y_N_keeps ∈ WT := (List.mem_append_right _ (List.mem_append_right _ (List.mem_append_right _ (List.mem_append_right _ (List.mem_append_right _ (List.mem_append_right _ (List.mem_append_right _ (List.mem_append_right _ (List.mem_append_right _ (List.mem_append_right _ (List.mem_append_right _ (List.mem_append_right _ (List.mem_append_right _ (List.mem_append_left _ (List.mem_of_getElem? (i := 34) rfl)))))))))))))))
theorem wm_555 : Cond.selects R_M y_M_to y_M_to ∈ WT := (List.mem_append_right _ (List.mem_append_right _ (List.mem_append_right _ (List.mem_append_right _ (List.mem_append_right _ (List.mem_append_right _ (List.mem_append_right _ (List.mem_append_right _ (List.mem_append_right _ (List.mem_append_right _ (List.mem_append_right _ (List.mem_append_right _ (List.mem_append_right _ (List.mem_append_left _ (List.mem_of_getElem? (i := 35) rfl)))))))))))))))
theorem wm_556 : Cond.selects R_M y_M_correct y_M_correct ∈ WT := (List.mem_append_right _ (List.mem_append_right _ (List.mem_append_right _ (List.mem_append_right _ (List.mem_append_right _ (List.mem_append_right _ (List.mem_append_right _ (List.mem_append_right _ (List.mem_append_right _ (List.mem_append_right _ (List.mem_append_right _ (List.mem_append_right _ (List.mem_append_right _ (List.mem_append_left _ (List.mem_of_getElem? (i := 36) rfl)))))))))))))))
theorem wm_557 : Cond.selects R_M y_M_said y_M_said ∈ WT := (List.mem_append_right _ (List.mem_append_right _ (List.mem_append_right _ (List.mem_append_right _ (List.mem_append_right _ (List.mem_append_right _ (List.mem_append_right _ (List.mem_append_right _ (List.mem_append_right _ (List.mem_append_right _ (List.mem_append_right _ (List.mem_append_right _ (List.mem_append_right _ (List.mem_append_left _ (List.mem_of_getElem? (i := 37) rfl)))))))))))))))
theorem wm_558 : Cond.selects R_M y_M_isInstance y_M_isInstance ∈ WT := (List.mem_append_right _ (List.mem_append_right _ (List.mem_append_right _ (List.mem_append_right _ (List.mem_append_right _ (List.mem_append_right _ (List.mem_append_right _ (List.mem_append_right _ (List.mem_append_right _ (List.mem_append_right _ (List.mem_append_right _ (List.mem_append_right _ (List.mem_append_right _ (List.mem_append_left _ (List.mem_of_getElem? (i := 38) rfl)))))))))))))))
theorem wm_559 : Cond.selects R_M y_M_up y_M_up ∈ WT := (List.mem_append_right _ (List.mem_append_right _ (List.mem_append_right _ (List.mem_append_right _ (List.mem_append_right _ (List.mem_append_right _ (List.mem_append_right _ (List.mem_append_right _ (List.mem_append_right _ (List.mem_append_right _ (List.mem_append_right _ (List.mem_append_right _ (List.mem_append_right _ (List.mem_append_left _ (List.mem_of_getElem? (i := 39) rfl)))))))))))))))
theorem wm_560 : Cond.selects R_M y_M_objection y_M_objection ∈ WT := (List.mem_append_right _ (List.mem_append_right _ (List.mem_append_right _ (List.mem_append_right _ (List.mem_append_right _ (List.mem_append_right _ (List.mem_append_right _ (List.mem_append_right _ (List.mem_append_right _ (List.mem_append_right _ (List.mem_append_right _ (List.mem_append_right _ (List.mem_append_right _ (List.mem_append_right _ (List.mem_of_getElem? (i := 0) rfl)))))))))))))))
theorem wm_561 : Cond.selects R_M y_M_isMark y_M_isMark ∈ WT := (List.mem_append_right _ (List.mem_append_right _ (List.mem_append_right _ (List.mem_append_right _ (List.mem_append_right _ (List.mem_append_right _ (List.mem_append_right _ (List.mem_append_right _ (List.mem_append_right _ (List.mem_append_right _ (List.mem_append_right _ (List.mem_append_right _ (List.mem_append_right _ (List.mem_append_right _ (List.mem_of_getElem? (i := 1) rfl)))))))))))))))
theorem wm_562 : Cond.selects R_M y_M_wellFormed y_M_wellFormed ∈ WT := (List.mem_append_right _ (List.mem_append_right _ (List.mem_append_right _ (List.mem_append_right _ (List.mem_append_right _ (List.mem_append_right _ (List.mem_append_right _ (List.mem_append_right _ (List.mem_append_right _ (List.mem_append_right _ (List.mem_append_right _ (List.mem_append_right _ (List.mem_append_right _ (List.mem_append_right _ (List.mem_of_getElem? (i := 2) rfl)))))))))))))))
theorem wm_563 : Cond.selects R_M y_M_deliver y_M_deliver ∈ WT := (List.mem_append_right _ (List.mem_append_right _ (List.mem_append_right _ (List.mem_append_right _ (List.mem_append_right _ (List.mem_append_right _ (List.mem_append_right _ (List.mem_append_right _ (List.mem_append_right _ (List.mem_append_right _ (List.mem_append_right _ (List.mem_append_right _ (List.mem_append_right _ (List.mem_append_right _ (List.mem_of_getElem? (i := 3) rfl)))))))))))))))
theorem wm_564 : Cond.selects R_M y_M_receive y_M_receive ∈ WT := (List.mem_append_right _ (List.mem_append_right _ (List.mem_append_right _ (List.mem_append_right _ (List.mem_append_right _ (List.mem_append_right _ (List.mem_append_right _ (List.mem_append_right _ (List.mem_append_right _ (List.mem_append_right _ (List.mem_append_right _ (List.mem_append_right _ (List.mem_append_right _ (List.mem_append_right _ (List.mem_of_getElem? (i := 4) rfl)))))))))))))))
theorem wm_565 : Cond.selects R_M y_M_release y_M_release ∈ WT := (List.mem_append_right _ (List.mem_append_right _ (List.mem_append_right _ (List.mem_append_right _ (List.mem_append_right _ (List.mem_append_right _ (List.mem_append_right _ (List.mem_append_right _ (List.mem_append_right _ (List.mem_append_right _ (List.mem_append_right _ (List.mem_append_right _ (List.mem_append_right _ (List.mem_append_right _ (List.mem_of_getElem? (i := 5) rfl)))))))))))))))
theorem wm_566 : Cond.selects R_M y_M_forget y_M_forget ∈ WT := (List.mem_append_right _ (List.mem_append_right _ (List.mem_append_right _ (List.mem_append_right _ (List.mem_append_right _ (List.mem_append_right _ (List.mem_append_right _ (List.mem_append_right _ (List.mem_append_right _ (List.mem_append_right _ (List.mem_append_right _ (List.mem_append_right _ (List.mem_append_right _ (List.mem_append_right _ (List.mem_of_getElem? (i := 6) rfl)))))))))))))))
theorem wm_567 : Cond.selects R_M y_M_burns y_M_burns ∈ WT := (List.mem_append_right _ (List.mem_append_right _ (List.mem_append_right _ (List.mem_append_right _ (List.mem_append_right _ (List.mem_append_right _ (List.mem_append_right _ (List.mem_append_right _ (List.mem_append_right _ (List.mem_append_right _ (List.mem_append_right _ (List.mem_append_right _ (List.mem_append_right _ (List.mem_append_right _ (List.mem_of_getElem? (i := 7) rfl)))))))))))))))
theorem wm_568 : Cond.selects R_M y_M_fall y_M_fall ∈ WT := (List.mem_append_right _ (List.mem_append_right _ (List.mem_append_right _ (List.mem_append_right _ (List.mem_append_right _ (List.mem_append_right _ (List.mem_append_right _ (List.mem_append_right _ (List.mem_append_right _ (List.mem_append_right _ (List.mem_append_right _ (List.mem_append_right _ (List.mem_append_right _ (List.mem_append_right _ (List.mem_of_getElem? (i := 8) rfl)))))))))))))))
theorem wm_569 : Cond.selects R_M y_M_many y_M_many ∈ WT := (List.mem_append_right _ (List.mem_append_right _ (List.mem_append_right _ (List.mem_append_right _ (List.mem_append_right _ (List.mem_append_right _ (List.mem_append_right _ (List.mem_append_right _ (List.mem_append_right _ (List.mem_append_right _ (List.mem_append_right _ (List.mem_append_right _ (List.mem_append_right _ (List.mem_append_right _ (List.mem_of_getElem? (i := 9) rfl)))))))))))))))
theorem wm_570 : Cond.selects R_M y_M_count y_M_count ∈ WT := (List.mem_append_right _ (List.mem_append_right _ (List.mem_append_right _ (List.mem_append_right _ (List.mem_append_right _ (List.mem_append_right _ (List.mem_append_right _ (List.mem_append_right _ (List.mem_append_right _ (List.mem_append_right _ (List.mem_append_right _ (List.mem_append_right _ (List.mem_append_right _ (List.mem_append_right _ (List.mem_of_getElem? (i := 10) rfl)))))))))))))))
theorem wm_571 : Cond.selects R_M y_M_apply y_M_apply ∈ WT := (List.mem_append_right _ (List.mem_append_right _ (List.mem_append_right _ (List.mem_append_right _ (List.mem_append_right _ (List.mem_append_right _ (List.mem_append_right _ (List.mem_append_right _ (List.mem_append_right _ (List.mem_append_right _ (List.mem_append_right _ (List.mem_append_right _ (List.mem_append_right _ (List.mem_append_right _ (List.mem_of_getElem? (i := 11) rfl)))))))))))))))
theorem wm_572 : Cond.selects R_M y_M_valid y_M_valid ∈ WT := (List.mem_append_right _ (List.mem_append_right _ (List.mem_append_right _ (List.mem_append_right _ (List.mem_append_right _ (List.mem_append_right _ (List.mem_append_right _ (List.mem_append_right _ (List.mem_append_right _ (List.mem_append_right _ (List.mem_append_right _ (List.mem_append_right _ (List.mem_append_right _ (List.mem_append_right _ (List.mem_of_getElem? (i := 12) rfl)))))))))))))))
theorem wm_573 : Cond.selects R_M y_M_worth y_M_worth ∈ WT := (List.mem_append_right _ (List.mem_append_right _ (List.mem_append_right _ (List.mem_append_right _ (List.mem_append_right _ (List.mem_append_right _ (List.mem_append_right _ (List.mem_append_right _ (List.mem_append_right _ (List.mem_append_right _ (List.mem_append_right _ (List.mem_append_right _ (List.mem_append_right _ (List.mem_append_right _ (List.mem_of_getElem? (i := 13) rfl)))))))))))))))
theorem WT_g0 : WT_0.all goodWord = true := by decide +kernel
theorem WT_g1 : WT_1.all goodWord = true := by decide +kernel
theorem WT_g2 : WT_2.all goodWord = true := by decide +kernel
theorem WT_g3 : WT_3.all goodWord = true := by decide +kernel
theorem WT_g4 : WT_4.all goodWord = true := by decide +kernel
theorem WT_g5 : WT_5.all goodWord = true := by decide +kernel
theorem WT_g6 : WT_6.all goodWord = true := by decide +kernel
theorem WT_g7 : WT_7.all goodWord = true := by decide +kernel
theorem WT_g8 : WT_8.all goodWord = true := by decide +kernel
theorem WT_g9 : WT_9.all goodWord = true := by decide +kernel
theorem WT_g10 : WT_10.all goodWord = true := by decide +kernel
theorem WT_g11 : WT_11.all goodWord = true := by decide +kernel
theorem WT_g12 : WT_12.all goodWord = true := by decide +kernel
theorem WT_g13 : WT_13.all goodWord = true := by decide +kernel
theorem WT_g14 : WT_14.all goodWord = true := by decide +kernel
theorem WT_good : ∀ w ∈ WT, goodWord w = true := by
  intro w h
  unfold WT at h
  simp only [List.mem_append] at h
  rcases h with h | h | h | h | h | h | h | h | h | h | h | h | h | h | h
  · exact List.all_eq_true.mp WT_g0 w h
  · exact List.all_eq_true.mp WT_g1 w h
  · exact List.all_eq_true.mp WT_g2 w h
  · exact List.all_eq_true.mp WT_g3 w h
  · exact List.all_eq_true.mp WT_g4 w h
  · exact List.all_eq_true.mp WT_g5 w h
  · exact List.all_eq_true.mp WT_g6 w h
  · exact List.all_eq_true.mp WT_g7 w h
  · exact List.all_eq_true.mp WT_g8 w h
  · exact List.all_eq_true.mp WT_g9 w h
  · exact List.all_eq_true.mp WT_g10 w h
  · exact List.all_eq_true.mp WT_g11 w h
  · exact List.all_eq_true.mp WT_g12 w h
  · exact List.all_eq_true.mp WT_g13 w h
  · exact List.all_eq_true.mp WT_g14 w h
theorem in_N0 : ∀ z ∈ u_ws R_N T_N 12, z ∈ WT := by
  intro z hz
  obtain ⟨k, hk, rfl⟩ := List.mem_map.mp hz
  have hk := List.mem_range.mp hk
  match k, hk with
  | 0, _ => exact wm_45
  | 1, _ => exact wm_46
  | 2, _ => exact wm_47
  | 3, _ => exact wm_48
  | 4, _ => exact wm_49
  | 5, _ => exact wm_50
  | 6, _ => exact wm_51
  | 7, _ => exact wm_52
  | 8, _ => exact wm_53
  | 9, _ => exact wm_54
  | 10, _ => exact wm_55
  | 11, _ => exact wm_56
  | k + 12, h => omega
theorem in_E0 : ∀ z ∈ u_ws R_E T_E 4, z ∈ WT := by
  intro z hz
  obtain ⟨k, hk, rfl⟩ := List.mem_map.mp hz
  have hk := List.mem_range.mp hk
  match k, hk with
  | 0, _ => exact wm_63
  | 1, _ => exact wm_64
  | 2, _ => exact wm_65
  | 3, _ => exact wm_66
  | k + 4, h => omega
theorem in_M0 : ∀ z ∈ u_ws R_M T_M 15, z ∈ WT := by
  intro z hz
  obtain ⟨k, hk, rfl⟩ := List.mem_map.mp hz
  have hk := List.mem_range.mp hk
  match k, hk with
  | 0, _ => exact wm_356
  | 1, _ => exact wm_357
  | 2, _ => exact wm_358
  | 3, _ => exact wm_359
  | 4, _ => exact wm_360
  | 5, _ => exact wm_361
  | 6, _ => exact wm_362
  | 7, _ => exact wm_363
  | 8, _ => exact wm_364
  | 9, _ => exact wm_365
  | 10, _ => exact wm_366
  | 11, _ => exact wm_367
  | 12, _ => exact wm_368
  | 13, _ => exact wm_369
  | 14, _ => exact wm_370
  | k + 15, h => omega
/-- a method's words: its own code, then WT -/
abbrev wsM (y : MethodName) (b : ByteArray) (n : Nat) (r : Option FieldType) : List Cond := Cond.code y b n r :: WT
theorem in_WT {y : MethodName} {b : ByteArray} {n : Nat} {r : Option FieldType} {w : Cond} (h : w ∈ WT) : w ∈ wsM y b n r := List.mem_cons_of_mem _ h
theorem good_WT {y y' : MethodName} {b b' : ByteArray} {n n' : Nat} {r r' : Option FieldType} (hc : Cond.code y' b' n' r' ∈ WT) : GoodIn (wsM y b n r) (wsM y' b' n' r') := by
  intro w hw
  rcases List.mem_cons.mp hw with rfl | h
  · exact ⟨in_WT hc, good_of_word (WT_good _ hc)⟩
  · exact ⟨in_WT h, good_of_word (WT_good _ h)⟩
theorem good_V {own C : String} {idx : Nat} {y y' : MethodName} {b b' : ByteArray} {n n' : Nat} {r r' : Option FieldType} (hc : Cond.code y' b' n' r' ∈ WT) (h1 : Cond.methodLink own idx y' ∈ WT) (h2 : Cond.instanceMethod y' ∈ WT) (h3 : Cond.selects C y' y' ∈ WT) (h4 : Cond.initialized C ∈ WT) : GoodIn (wsM y b n r) (wsV own idx C y' (wsM y' b' n' r')) := by
  intro w hw
  rcases List.mem_append.mp hw with h | h
  · have : w ∈ WT := by
      simp only [List.mem_cons, List.not_mem_nil, or_false] at h
      rcases h with rfl | rfl | rfl | rfl
      · exact h1
      · exact h2
      · exact h3
      · exact h4
    exact ⟨in_WT this, good_of_word (WT_good _ this)⟩
  · exact good_WT hc w h
theorem good_S {own : String} {idx : Nat} {y y' : MethodName} {b b' : ByteArray} {n n' : Nat} {r r' : Option FieldType} (hc : Cond.code y' b' n' r' ∈ WT) (h1 : Cond.methodLink own idx y' ∈ WT) (h2 : Cond.static y' ∈ WT) (h3 : Cond.initialized y'.cls ∈ WT) : GoodIn (wsM y b n r) (va_wsS own idx y' (wsM y' b' n' r')) := by
  intro w hw
  rcases List.mem_append.mp hw with h | h
  · have : w ∈ WT := by
      simp only [List.mem_cons, List.not_mem_nil, or_false] at h
      rcases h with rfl | rfl | rfl
      · exact h1
      · exact h2
      · exact h3
    exact ⟨in_WT this, good_of_word (WT_good _ this)⟩
  · exact good_WT hc w h
theorem in_N {y : MethodName} {b : ByteArray} {n : Nat} {r : Option FieldType} : ∀ z ∈ u_ws R_N T_N 12, z ∈ wsM y b n r := fun z hz => in_WT (in_N0 z hz)
theorem in_E {y : MethodName} {b : ByteArray} {n : Nat} {r : Option FieldType} : ∀ z ∈ u_ws R_E T_E 4, z ∈ wsM y b n r := fun z hz => in_WT (in_E0 z hz)
theorem in_M {y : MethodName} {b : ByteArray} {n : Nat} {r : Option FieldType} : ∀ z ∈ u_ws R_M T_M 15, z ∈ wsM y b n r := fun z hz => in_WT (in_M0 z hz)
end
section
/-! Decode rows, laid by wip/gen/names.py -/
theorem d_T_of_0 : decode b_T_of 0 = .ok (.iload_n 0, 1) := by decide +kernel
theorem d_T_of_1 : decode b_T_of 1 = .ok (.bipush 7, 2) := by decide +kernel
theorem d_T_of_3 : decode b_T_of 3 = .ok (.imul, 1) := by decide +kernel
theorem d_T_of_4 : decode b_T_of 4 = .ok (.iload_n 1, 1) := by decide +kernel
theorem d_T_of_5 : decode b_T_of 5 = .ok (.iadd, 1) := by decide +kernel
theorem d_T_of_6 : decode b_T_of 6 = .ok (.iconst 5, 1) := by decide +kernel
theorem d_T_of_7 : decode b_T_of 7 = .ok (.imul, 1) := by decide +kernel
theorem d_T_of_8 : decode b_T_of 8 = .ok (.iload_n 2, 1) := by decide +kernel
theorem d_T_of_9 : decode b_T_of 9 = .ok (.iadd, 1) := by decide +kernel
theorem d_T_of_10 : decode b_T_of 10 = .ok (.iconst 1, 1) := by decide +kernel
theorem d_T_of_11 : decode b_T_of 11 = .ok (.isub, 1) := by decide +kernel
theorem d_T_of_12 : decode b_T_of 12 = .ok (.ireturn, 1) := by decide +kernel
theorem d_T_at_0 : decode b_T_at 0 = .ok (.iload_n 0, 1) := by decide +kernel
theorem d_T_at_1 : decode b_T_at 1 = .ok (.bipush 35, 2) := by decide +kernel
theorem d_T_at_3 : decode b_T_at 3 = .ok (.imul, 1) := by decide +kernel
theorem d_T_at_4 : decode b_T_at 4 = .ok (.iload_n 1, 1) := by decide +kernel
theorem d_T_at_5 : decode b_T_at 5 = .ok (.iadd, 1) := by decide +kernel
theorem d_T_at_6 : decode b_T_at 6 = .ok (.ireturn, 1) := by decide +kernel
theorem d_T_kind_0 : decode b_T_kind 0 = .ok (.iload_n 0, 1) := by decide +kernel
theorem d_T_kind_1 : decode b_T_kind 1 = .ok (.bipush 35, 2) := by decide +kernel
theorem d_T_kind_3 : decode b_T_kind 3 = .ok (.idiv, 1) := by decide +kernel
theorem d_T_kind_4 : decode b_T_kind 4 = .ok (.ireturn, 1) := by decide +kernel
theorem d_T_instance_0 : decode b_T_instance 0 = .ok (.iload_n 0, 1) := by decide +kernel
theorem d_T_instance_1 : decode b_T_instance 1 = .ok (.bipush 35, 2) := by decide +kernel
theorem d_T_instance_3 : decode b_T_instance 3 = .ok (.irem, 1) := by decide +kernel
theorem d_T_instance_4 : decode b_T_instance 4 = .ok (.ireturn, 1) := by decide +kernel
theorem d_T_account_0 : decode b_T_account 0 = .ok (.iload_n 0, 1) := by decide +kernel
theorem d_T_account_1 : decode b_T_account 1 = .ok (.bipush 35, 2) := by decide +kernel
theorem d_T_account_3 : decode b_T_account 3 = .ok (.irem, 1) := by decide +kernel
theorem d_T_account_4 : decode b_T_account 4 = .ok (.iconst 5, 1) := by decide +kernel
theorem d_T_account_5 : decode b_T_account 5 = .ok (.idiv, 1) := by decide +kernel
theorem d_T_account_6 : decode b_T_account 6 = .ok (.ireturn, 1) := by decide +kernel
theorem d_T_seq_0 : decode b_T_seq 0 = .ok (.iload_n 0, 1) := by decide +kernel
theorem d_T_seq_1 : decode b_T_seq 1 = .ok (.iconst 5, 1) := by decide +kernel
theorem d_T_seq_2 : decode b_T_seq 2 = .ok (.irem, 1) := by decide +kernel
theorem d_T_seq_3 : decode b_T_seq 3 = .ok (.iconst 1, 1) := by decide +kernel
theorem d_T_seq_4 : decode b_T_seq 4 = .ok (.iadd, 1) := by decide +kernel
theorem d_T_seq_5 : decode b_T_seq 5 = .ok (.ireturn, 1) := by decide +kernel
theorem d_P_payee_0 : decode b_P_payee 0 = .ok (.lload_n 0, 1) := by decide +kernel
theorem d_P_payee_1 : decode b_P_payee 1 = .ok (.ldc2_w 9, 3) := by decide +kernel
theorem d_P_payee_4 : decode b_P_payee 4 = .ok (.land, 1) := by decide +kernel
theorem d_P_payee_5 : decode b_P_payee 5 = .ok (.l2i, 1) := by decide +kernel
theorem d_P_payee_6 : decode b_P_payee 6 = .ok (.ireturn, 1) := by decide +kernel
theorem d_P_amount_0 : decode b_P_amount 0 = .ok (.lload_n 0, 1) := by decide +kernel
theorem d_P_amount_1 : decode b_P_amount 1 = .ok (.iconst 3, 1) := by decide +kernel
theorem d_P_amount_2 : decode b_P_amount 2 = .ok (.lshr, 1) := by decide +kernel
theorem d_P_amount_3 : decode b_P_amount 3 = .ok (.ldc2_w 11, 3) := by decide +kernel
theorem d_P_amount_6 : decode b_P_amount 6 = .ok (.land, 1) := by decide +kernel
theorem d_P_amount_7 : decode b_P_amount 7 = .ok (.l2i, 1) := by decide +kernel
theorem d_P_amount_8 : decode b_P_amount 8 = .ok (.ireturn, 1) := by decide +kernel
theorem d_P_need_0 : decode b_P_need 0 = .ok (.lload_n 0, 1) := by decide +kernel
theorem d_P_need_1 : decode b_P_need 1 = .ok (.bipush 13, 2) := by decide +kernel
theorem d_P_need_3 : decode b_P_need 3 = .ok (.iconst 3, 1) := by decide +kernel
theorem d_P_need_4 : decode b_P_need 4 = .ok (.iload_n 2, 1) := by decide +kernel
theorem d_P_need_5 : decode b_P_need 5 = .ok (.imul, 1) := by decide +kernel
theorem d_P_need_6 : decode b_P_need 6 = .ok (.iadd, 1) := by decide +kernel
theorem d_P_need_7 : decode b_P_need 7 = .ok (.lshr, 1) := by decide +kernel
theorem d_P_need_8 : decode b_P_need 8 = .ok (.ldc2_w 9, 3) := by decide +kernel
theorem d_P_need_11 : decode b_P_need 11 = .ok (.land, 1) := by decide +kernel
theorem d_P_need_12 : decode b_P_need 12 = .ok (.l2i, 1) := by decide +kernel
theorem d_P_need_13 : decode b_P_need 13 = .ok (.ireturn, 1) := by decide +kernel
theorem d_P_make_0 : decode b_P_make 0 = .ok (.iload_n 0, 1) := by decide +kernel
theorem d_P_make_1 : decode b_P_make 1 = .ok (.i2l, 1) := by decide +kernel
theorem d_P_make_2 : decode b_P_make 2 = .ok (.iload_n 1, 1) := by decide +kernel
theorem d_P_make_3 : decode b_P_make 3 = .ok (.i2l, 1) := by decide +kernel
theorem d_P_make_4 : decode b_P_make 4 = .ok (.iconst 3, 1) := by decide +kernel
theorem d_P_make_5 : decode b_P_make 5 = .ok (.lshl, 1) := by decide +kernel
theorem d_P_make_6 : decode b_P_make 6 = .ok (.lor, 1) := by decide +kernel
theorem d_P_make_7 : decode b_P_make 7 = .ok (.lload_n 2, 1) := by decide +kernel
theorem d_P_make_8 : decode b_P_make 8 = .ok (.bipush 13, 2) := by decide +kernel
theorem d_P_make_10 : decode b_P_make 10 = .ok (.lshl, 1) := by decide +kernel
theorem d_P_make_11 : decode b_P_make 11 = .ok (.lor, 1) := by decide +kernel
theorem d_P_make_12 : decode b_P_make 12 = .ok (.lreturn, 1) := by decide +kernel
theorem d_P_digit_0 : decode b_P_digit 0 = .ok (.lload_n 0, 1) := by decide +kernel
theorem d_P_digit_1 : decode b_P_digit 1 = .ok (.iconst 3, 1) := by decide +kernel
theorem d_P_digit_2 : decode b_P_digit 2 = .ok (.iload_n 2, 1) := by decide +kernel
theorem d_P_digit_3 : decode b_P_digit 3 = .ok (.imul, 1) := by decide +kernel
theorem d_P_digit_4 : decode b_P_digit 4 = .ok (.lshr, 1) := by decide +kernel
theorem d_P_digit_5 : decode b_P_digit 5 = .ok (.ldc2_w 9, 3) := by decide +kernel
theorem d_P_digit_8 : decode b_P_digit 8 = .ok (.land, 1) := by decide +kernel
theorem d_P_digit_9 : decode b_P_digit 9 = .ok (.l2i, 1) := by decide +kernel
theorem d_P_digit_10 : decode b_P_digit 10 = .ok (.ireturn, 1) := by decide +kernel
theorem d_P_isWellFormed_0 : decode b_P_isWellFormed 0 = .ok (.lload_n 0, 1) := by decide +kernel
theorem d_P_isWellFormed_1 : decode b_P_isWellFormed 1 = .ok (.invokestatic 15, 3) := by decide +kernel
theorem d_P_isWellFormed_4 : decode b_P_isWellFormed 4 = .ok (.iload_n 3, 1) := by decide +kernel
theorem d_P_isWellFormed_5 : decode b_P_isWellFormed 5 = .ok (.if_icmp .ge 18, 3) := by decide +kernel
theorem d_P_isWellFormed_8 : decode b_P_isWellFormed 8 = .ok (.lload_n 0, 1) := by decide +kernel
theorem d_P_isWellFormed_9 : decode b_P_isWellFormed 9 = .ok (.invokestatic 15, 3) := by decide +kernel
theorem d_P_isWellFormed_12 : decode b_P_isWellFormed 12 = .ok (.iload_n 2, 1) := by decide +kernel
theorem d_P_isWellFormed_13 : decode b_P_isWellFormed 13 = .ok (.if_icmp .eq 10, 3) := by decide +kernel
theorem d_P_isWellFormed_16 : decode b_P_isWellFormed 16 = .ok (.lload_n 0, 1) := by decide +kernel
theorem d_P_isWellFormed_17 : decode b_P_isWellFormed 17 = .ok (.invokestatic 19, 3) := by decide +kernel
theorem d_P_isWellFormed_20 : decode b_P_isWellFormed 20 = .ok (.ifCond .ne 5, 3) := by decide +kernel
theorem d_P_isWellFormed_23 : decode b_P_isWellFormed 23 = .ok (.iconst 0, 1) := by decide +kernel
theorem d_P_isWellFormed_24 : decode b_P_isWellFormed 24 = .ok (.ireturn, 1) := by decide +kernel
theorem d_P_isWellFormed_25 : decode b_P_isWellFormed 25 = .ok (.lload_n 0, 1) := by decide +kernel
theorem d_P_isWellFormed_26 : decode b_P_isWellFormed 26 = .ok (.iload_n 2, 1) := by decide +kernel
theorem d_P_isWellFormed_27 : decode b_P_isWellFormed 27 = .ok (.invokestatic 22, 3) := by decide +kernel
theorem d_P_isWellFormed_30 : decode b_P_isWellFormed 30 = .ok (.ifCond .ne 18, 3) := by decide +kernel
theorem d_P_isWellFormed_33 : decode b_P_isWellFormed 33 = .ok (.lload_n 0, 1) := by decide +kernel
theorem d_P_isWellFormed_34 : decode b_P_isWellFormed 34 = .ok (.bipush 13, 2) := by decide +kernel
theorem d_P_isWellFormed_36 : decode b_P_isWellFormed 36 = .ok (.lshr, 1) := by decide +kernel
theorem d_P_isWellFormed_37 : decode b_P_isWellFormed 37 = .ok (.iload_n 3, 1) := by decide +kernel
theorem d_P_isWellFormed_38 : decode b_P_isWellFormed 38 = .ok (.invokestatic 26, 3) := by decide +kernel
theorem d_P_isWellFormed_41 : decode b_P_isWellFormed 41 = .ok (.ifCond .eq 7, 3) := by decide +kernel
theorem d_P_isWellFormed_44 : decode b_P_isWellFormed 44 = .ok (.iconst 1, 1) := by decide +kernel
theorem d_P_isWellFormed_45 : decode b_P_isWellFormed 45 = .ok (.goto 4, 3) := by decide +kernel
theorem d_P_isWellFormed_48 : decode b_P_isWellFormed 48 = .ok (.iconst 0, 1) := by decide +kernel
theorem d_P_isWellFormed_49 : decode b_P_isWellFormed 49 = .ok (.ireturn, 1) := by decide +kernel
theorem d_P_isMark_0 : decode b_P_isMark 0 = .ok (.lload_n 0, 1) := by decide +kernel
theorem d_P_isMark_1 : decode b_P_isMark 1 = .ok (.lconst 0, 1) := by decide +kernel
theorem d_P_isMark_2 : decode b_P_isMark 2 = .ok (.lcmp, 1) := by decide +kernel
theorem d_P_isMark_3 : decode b_P_isMark 3 = .ok (.ifCond .lt 13, 3) := by decide +kernel
theorem d_P_isMark_6 : decode b_P_isMark 6 = .ok (.lload_n 0, 1) := by decide +kernel
theorem d_P_isMark_7 : decode b_P_isMark 7 = .ok (.lconst 1, 1) := by decide +kernel
theorem d_P_isMark_8 : decode b_P_isMark 8 = .ok (.iconst 3, 1) := by decide +kernel
theorem d_P_isMark_9 : decode b_P_isMark 9 = .ok (.iload_n 2, 1) := by decide +kernel
theorem d_P_isMark_10 : decode b_P_isMark 10 = .ok (.imul, 1) := by decide +kernel
theorem d_P_isMark_11 : decode b_P_isMark 11 = .ok (.lshl, 1) := by decide +kernel
theorem d_P_isMark_12 : decode b_P_isMark 12 = .ok (.lcmp, 1) := by decide +kernel
theorem d_P_isMark_13 : decode b_P_isMark 13 = .ok (.ifCond .lt 5, 3) := by decide +kernel
theorem d_P_isMark_16 : decode b_P_isMark 16 = .ok (.iconst 0, 1) := by decide +kernel
theorem d_P_isMark_17 : decode b_P_isMark 17 = .ok (.ireturn, 1) := by decide +kernel
theorem d_P_isMark_18 : decode b_P_isMark 18 = .ok (.iconst 0, 1) := by decide +kernel
theorem d_P_isMark_19 : decode b_P_isMark 19 = .ok (.istore_n 3, 1) := by decide +kernel
theorem d_P_isMark_20 : decode b_P_isMark 20 = .ok (.iload_n 3, 1) := by decide +kernel
theorem d_P_isMark_21 : decode b_P_isMark 21 = .ok (.iload_n 2, 1) := by decide +kernel
theorem d_P_isMark_22 : decode b_P_isMark 22 = .ok (.if_icmp .ge 20, 3) := by decide +kernel
theorem d_P_isMark_25 : decode b_P_isMark 25 = .ok (.lload_n 0, 1) := by decide +kernel
theorem d_P_isMark_26 : decode b_P_isMark 26 = .ok (.iload_n 3, 1) := by decide +kernel
theorem d_P_isMark_27 : decode b_P_isMark 27 = .ok (.invokestatic 30, 3) := by decide +kernel
theorem d_P_isMark_30 : decode b_P_isMark 30 = .ok (.iconst 5, 1) := by decide +kernel
theorem d_P_isMark_31 : decode b_P_isMark 31 = .ok (.if_icmp .le 5, 3) := by decide +kernel
theorem d_P_isMark_34 : decode b_P_isMark 34 = .ok (.iconst 0, 1) := by decide +kernel
theorem d_P_isMark_35 : decode b_P_isMark 35 = .ok (.ireturn, 1) := by decide +kernel
theorem d_P_isMark_36 : decode b_P_isMark 36 = .ok (.iinc 3 1, 3) := by decide +kernel
theorem d_P_isMark_39 : decode b_P_isMark 39 = .ok (.goto (-19), 3) := by decide +kernel
theorem d_P_isMark_42 : decode b_P_isMark 42 = .ok (.iconst 1, 1) := by decide +kernel
theorem d_P_isMark_43 : decode b_P_isMark 43 = .ok (.ireturn, 1) := by decide +kernel
theorem d_N_init_0 : decode b_N_init 0 = .ok (.aload_n 0, 1) := by decide +kernel
theorem d_N_init_1 : decode b_N_init 1 = .ok (.invokespecial 3, 3) := by decide +kernel
theorem d_N_init_4 : decode b_N_init 4 = .ok (.aload_n 0, 1) := by decide +kernel
theorem d_N_init_5 : decode b_N_init 5 = .ok (.iconst 0, 1) := by decide +kernel
theorem d_N_init_6 : decode b_N_init 6 = .ok (.putfield 9, 3) := by decide +kernel
theorem d_N_init_9 : decode b_N_init 9 = .ok (.aload_n 0, 1) := by decide +kernel
theorem d_N_init_10 : decode b_N_init 10 = .ok (.sipush 141, 3) := by decide +kernel
theorem d_N_init_13 : decode b_N_init 13 = .ok (.newarray .long, 2) := by decide +kernel
theorem d_N_init_15 : decode b_N_init 15 = .ok (.putfield 15, 3) := by decide +kernel
theorem d_N_init_18 : decode b_N_init 18 = .ok (.aload_n 0, 1) := by decide +kernel
theorem d_N_init_19 : decode b_N_init 19 = .ok (.bipush 7, 2) := by decide +kernel
theorem d_N_init_21 : decode b_N_init 21 = .ok (.newarray .int, 2) := by decide +kernel
theorem d_N_init_23 : decode b_N_init 23 = .ok (.putfield 19, 3) := by decide +kernel
theorem d_N_init_26 : decode b_N_init 26 = .ok (.aload_n 0, 1) := by decide +kernel
theorem d_N_init_27 : decode b_N_init 27 = .ok (.bipush 7, 2) := by decide +kernel
theorem d_N_init_29 : decode b_N_init 29 = .ok (.newarray .int, 2) := by decide +kernel
theorem d_N_init_31 : decode b_N_init 31 = .ok (.putfield 23, 3) := by decide +kernel
theorem d_N_init_34 : decode b_N_init 34 = .ok (.aload_n 0, 1) := by decide +kernel
theorem d_N_init_35 : decode b_N_init 35 = .ok (.bipush 7, 2) := by decide +kernel
theorem d_N_init_37 : decode b_N_init 37 = .ok (.newarray .long, 2) := by decide +kernel
theorem d_N_init_39 : decode b_N_init 39 = .ok (.putfield 26, 3) := by decide +kernel
theorem d_N_init_42 : decode b_N_init 42 = .ok (.aload_n 0, 1) := by decide +kernel
theorem d_N_init_43 : decode b_N_init 43 = .ok (.sipush 987, 3) := by decide +kernel
theorem d_N_init_46 : decode b_N_init 46 = .ok (.newarray .long, 2) := by decide +kernel
theorem d_N_init_48 : decode b_N_init 48 = .ok (.putfield 29, 3) := by decide +kernel
theorem d_N_init_51 : decode b_N_init 51 = .ok (.aload_n 0, 1) := by decide +kernel
theorem d_N_init_52 : decode b_N_init 52 = .ok (.bipush 35, 2) := by decide +kernel
theorem d_N_init_54 : decode b_N_init 54 = .ok (.newarray .long, 2) := by decide +kernel
theorem d_N_init_56 : decode b_N_init 56 = .ok (.putfield 32, 3) := by decide +kernel
theorem d_N_init_59 : decode b_N_init 59 = .ok (.aload_n 0, 1) := by decide +kernel
theorem d_N_init_60 : decode b_N_init 60 = .ok (.iload_n 1, 1) := by decide +kernel
theorem d_N_init_61 : decode b_N_init 61 = .ok (.putfield 35, 3) := by decide +kernel
theorem d_N_init_64 : decode b_N_init 64 = .ok (.aload_n 0, 1) := by decide +kernel
theorem d_N_init_65 : decode b_N_init 65 = .ok (.iload_n 2, 1) := by decide +kernel
theorem d_N_init_66 : decode b_N_init 66 = .ok (.putfield 38, 3) := by decide +kernel
theorem d_N_init_69 : decode b_N_init 69 = .ok (.aload_n 0, 1) := by decide +kernel
theorem d_N_init_70 : decode b_N_init 70 = .ok (.iload_n 3, 1) := by decide +kernel
theorem d_N_init_71 : decode b_N_init 71 = .ok (.putfield 41, 3) := by decide +kernel
theorem d_N_init_74 : decode b_N_init 74 = .ok (.aload_n 0, 1) := by decide +kernel
theorem d_N_init_75 : decode b_N_init 75 = .ok (.getfield 15, 3) := by decide +kernel
theorem d_N_init_78 : decode b_N_init 78 = .ok (.ldc2_w 44, 3) := by decide +kernel
theorem d_N_init_81 : decode b_N_init 81 = .ok (.invokestatic 46, 3) := by decide +kernel
theorem d_N_init_84 : decode b_N_init 84 = .ok (.aload_n 0, 1) := by decide +kernel
theorem d_N_init_85 : decode b_N_init 85 = .ok (.getfield 29, 3) := by decide +kernel
theorem d_N_init_88 : decode b_N_init 88 = .ok (.ldc2_w 44, 3) := by decide +kernel
theorem d_N_init_91 : decode b_N_init 91 = .ok (.invokestatic 46, 3) := by decide +kernel
theorem d_N_init_94 : decode b_N_init 94 = .ok (.aload_n 0, 1) := by decide +kernel
theorem d_N_init_95 : decode b_N_init 95 = .ok (.getfield 32, 3) := by decide +kernel
theorem d_N_init_98 : decode b_N_init 98 = .ok (.ldc2_w 44, 3) := by decide +kernel
theorem d_N_init_101 : decode b_N_init 101 = .ok (.invokestatic 46, 3) := by decide +kernel
theorem d_N_init_104 : decode b_N_init 104 = .ok (.aload_n 0, 1) := by decide +kernel
theorem d_N_init_105 : decode b_N_init 105 = .ok (.getfield 26, 3) := by decide +kernel
theorem d_N_init_108 : decode b_N_init 108 = .ok (.lload 4, 2) := by decide +kernel
theorem d_N_init_110 : decode b_N_init 110 = .ok (.invokestatic 46, 3) := by decide +kernel
theorem d_N_init_113 : decode b_N_init 113 = .ok (.return_, 1) := by decide +kernel
theorem d_N_condition_0 : decode b_N_condition 0 = .ok (.aload_n 0, 1) := by decide +kernel
theorem d_N_condition_1 : decode b_N_condition 1 = .ok (.getfield 9, 3) := by decide +kernel
theorem d_N_condition_4 : decode b_N_condition 4 = .ok (.ireturn, 1) := by decide +kernel
theorem d_N_said_0 : decode b_N_said 0 = .ok (.aload_n 0, 1) := by decide +kernel
theorem d_N_said_1 : decode b_N_said 1 = .ok (.getfield 15, 3) := by decide +kernel
theorem d_N_said_4 : decode b_N_said 4 = .ok (.iload_n 1, 1) := by decide +kernel
theorem d_N_said_5 : decode b_N_said 5 = .ok (.laload, 1) := by decide +kernel
theorem d_N_said_6 : decode b_N_said 6 = .ok (.lreturn, 1) := by decide +kernel
theorem d_N_acceptedFor_0 : decode b_N_acceptedFor 0 = .ok (.aload_n 0, 1) := by decide +kernel
theorem d_N_acceptedFor_1 : decode b_N_acceptedFor 1 = .ok (.getfield 32, 3) := by decide +kernel
theorem d_N_acceptedFor_4 : decode b_N_acceptedFor 4 = .ok (.iload_n 1, 1) := by decide +kernel
theorem d_N_acceptedFor_5 : decode b_N_acceptedFor 5 = .ok (.laload, 1) := by decide +kernel
theorem d_N_acceptedFor_6 : decode b_N_acceptedFor 6 = .ok (.lreturn, 1) := by decide +kernel
theorem d_N_appliedOf_0 : decode b_N_appliedOf 0 = .ok (.aload_n 0, 1) := by decide +kernel
theorem d_N_appliedOf_1 : decode b_N_appliedOf 1 = .ok (.getfield 19, 3) := by decide +kernel
theorem d_N_appliedOf_4 : decode b_N_appliedOf 4 = .ok (.iload_n 1, 1) := by decide +kernel
theorem d_N_appliedOf_5 : decode b_N_appliedOf 5 = .ok (.iaload, 1) := by decide +kernel
theorem d_N_appliedOf_6 : decode b_N_appliedOf 6 = .ok (.ireturn, 1) := by decide +kernel
theorem d_N_balanceOf_0 : decode b_N_balanceOf 0 = .ok (.aload_n 0, 1) := by decide +kernel
theorem d_N_balanceOf_1 : decode b_N_balanceOf 1 = .ok (.getfield 26, 3) := by decide +kernel
theorem d_N_balanceOf_4 : decode b_N_balanceOf 4 = .ok (.iload_n 1, 1) := by decide +kernel
theorem d_N_balanceOf_5 : decode b_N_balanceOf 5 = .ok (.laload, 1) := by decide +kernel
theorem d_N_balanceOf_6 : decode b_N_balanceOf 6 = .ok (.lreturn, 1) := by decide +kernel
theorem d_N_freedOf_0 : decode b_N_freedOf 0 = .ok (.aload_n 0, 1) := by decide +kernel
theorem d_N_freedOf_1 : decode b_N_freedOf 1 = .ok (.getfield 23, 3) := by decide +kernel
theorem d_N_freedOf_4 : decode b_N_freedOf 4 = .ok (.iload_n 1, 1) := by decide +kernel
theorem d_N_freedOf_5 : decode b_N_freedOf 5 = .ok (.iaload, 1) := by decide +kernel
theorem d_N_freedOf_6 : decode b_N_freedOf 6 = .ok (.ireturn, 1) := by decide +kernel
theorem d_N_turnFaulty_0 : decode b_N_turnFaulty 0 = .ok (.aload_n 0, 1) := by decide +kernel
theorem d_N_turnFaulty_1 : decode b_N_turnFaulty 1 = .ok (.iconst 2, 1) := by decide +kernel
theorem d_N_turnFaulty_2 : decode b_N_turnFaulty 2 = .ok (.putfield 9, 3) := by decide +kernel
theorem d_N_turnFaulty_5 : decode b_N_turnFaulty 5 = .ok (.return_, 1) := by decide +kernel
theorem d_N_comeUp_0 : decode b_N_comeUp 0 = .ok (.aload_n 0, 1) := by decide +kernel
theorem d_N_comeUp_1 : decode b_N_comeUp 1 = .ok (.iconst 0, 1) := by decide +kernel
theorem d_N_comeUp_2 : decode b_N_comeUp 2 = .ok (.putfield 9, 3) := by decide +kernel
theorem d_N_comeUp_5 : decode b_N_comeUp 5 = .ok (.return_, 1) := by decide +kernel
theorem d_N_setFuse_0 : decode b_N_setFuse 0 = .ok (.aload_n 0, 1) := by decide +kernel
theorem d_N_setFuse_1 : decode b_N_setFuse 1 = .ok (.iload_n 1, 1) := by decide +kernel
theorem d_N_setFuse_2 : decode b_N_setFuse 2 = .ok (.putfield 52, 3) := by decide +kernel
theorem d_N_setFuse_5 : decode b_N_setFuse 5 = .ok (.return_, 1) := by decide +kernel
theorem d_N_goDown_0 : decode b_N_goDown 0 = .ok (.aload_n 0, 1) := by decide +kernel
theorem d_N_goDown_1 : decode b_N_goDown 1 = .ok (.iconst 1, 1) := by decide +kernel
theorem d_N_goDown_2 : decode b_N_goDown 2 = .ok (.putfield 9, 3) := by decide +kernel
theorem d_N_goDown_5 : decode b_N_goDown 5 = .ok (.aload_n 0, 1) := by decide +kernel
theorem d_N_goDown_6 : decode b_N_goDown 6 = .ok (.iconst 0, 1) := by decide +kernel
theorem d_N_goDown_7 : decode b_N_goDown 7 = .ok (.putfield 52, 3) := by decide +kernel
theorem d_N_goDown_10 : decode b_N_goDown 10 = .ok (.aload_n 0, 1) := by decide +kernel
theorem d_N_goDown_11 : decode b_N_goDown 11 = .ok (.getfield 29, 3) := by decide +kernel
theorem d_N_goDown_14 : decode b_N_goDown 14 = .ok (.ldc2_w 44, 3) := by decide +kernel
theorem d_N_goDown_17 : decode b_N_goDown 17 = .ok (.invokestatic 46, 3) := by decide +kernel
theorem d_N_goDown_20 : decode b_N_goDown 20 = .ok (.aload_n 0, 1) := by decide +kernel
theorem d_N_goDown_21 : decode b_N_goDown 21 = .ok (.getfield 32, 3) := by decide +kernel
theorem d_N_goDown_24 : decode b_N_goDown 24 = .ok (.ldc2_w 44, 3) := by decide +kernel
theorem d_N_goDown_27 : decode b_N_goDown 27 = .ok (.invokestatic 46, 3) := by decide +kernel
theorem d_N_goDown_30 : decode b_N_goDown 30 = .ok (.return_, 1) := by decide +kernel
theorem d_N_writeSubmission_0 : decode b_N_writeSubmission 0 = .ok (.aload_n 0, 1) := by decide +kernel
theorem d_N_writeSubmission_1 : decode b_N_writeSubmission 1 = .ok (.getfield 55, 3) := by decide +kernel
theorem d_N_writeSubmission_4 : decode b_N_writeSubmission 4 = .ok (.iconst 5, 1) := by decide +kernel
theorem d_N_writeSubmission_5 : decode b_N_writeSubmission 5 = .ok (.if_icmp .lt 6, 3) := by decide +kernel
theorem d_N_writeSubmission_8 : decode b_N_writeSubmission 8 = .ok (.bipush (-8), 2) := by decide +kernel
theorem d_N_writeSubmission_10 : decode b_N_writeSubmission 10 = .ok (.ireturn, 1) := by decide +kernel
theorem d_N_writeSubmission_11 : decode b_N_writeSubmission 11 = .ok (.aload_n 0, 1) := by decide +kernel
theorem d_N_writeSubmission_12 : decode b_N_writeSubmission 12 = .ok (.invokevirtual 58, 3) := by decide +kernel
theorem d_N_writeSubmission_15 : decode b_N_writeSubmission 15 = .ok (.iload_n 2, 1) := by decide +kernel
theorem d_N_writeSubmission_16 : decode b_N_writeSubmission 16 = .ok (.i2l, 1) := by decide +kernel
theorem d_N_writeSubmission_17 : decode b_N_writeSubmission 17 = .ok (.lcmp, 1) := by decide +kernel
theorem d_N_writeSubmission_18 : decode b_N_writeSubmission 18 = .ok (.ifCond .ge 6, 3) := by decide +kernel
theorem d_N_writeSubmission_21 : decode b_N_writeSubmission 21 = .ok (.bipush (-9), 2) := by decide +kernel
theorem d_N_writeSubmission_23 : decode b_N_writeSubmission 23 = .ok (.ireturn, 1) := by decide +kernel
theorem d_N_writeSubmission_24 : decode b_N_writeSubmission 24 = .ok (.aload_n 0, 1) := by decide +kernel
theorem d_N_writeSubmission_25 : decode b_N_writeSubmission 25 = .ok (.iconst 0, 1) := by decide +kernel
theorem d_N_writeSubmission_26 : decode b_N_writeSubmission 26 = .ok (.aload_n 0, 1) := by decide +kernel
theorem d_N_writeSubmission_27 : decode b_N_writeSubmission 27 = .ok (.getfield 35, 3) := by decide +kernel
theorem d_N_writeSubmission_30 : decode b_N_writeSubmission 30 = .ok (.aload_n 0, 1) := by decide +kernel
theorem d_N_writeSubmission_31 : decode b_N_writeSubmission 31 = .ok (.getfield 55, 3) := by decide +kernel
theorem d_N_writeSubmission_34 : decode b_N_writeSubmission 34 = .ok (.iconst 1, 1) := by decide +kernel
theorem d_N_writeSubmission_35 : decode b_N_writeSubmission 35 = .ok (.iadd, 1) := by decide +kernel
theorem d_N_writeSubmission_36 : decode b_N_writeSubmission 36 = .ok (.invokestatic 62, 3) := by decide +kernel
theorem d_N_writeSubmission_39 : decode b_N_writeSubmission 39 = .ok (.iload_n 1, 1) := by decide +kernel
theorem d_N_writeSubmission_40 : decode b_N_writeSubmission 40 = .ok (.iload_n 2, 1) := by decide +kernel
theorem d_N_writeSubmission_41 : decode b_N_writeSubmission 41 = .ok (.aload_n 0, 1) := by decide +kernel
theorem d_N_writeSubmission_42 : decode b_N_writeSubmission 42 = .ok (.invokevirtual 68, 3) := by decide +kernel
theorem d_N_writeSubmission_45 : decode b_N_writeSubmission 45 = .ok (.invokestatic 71, 3) := by decide +kernel
theorem d_N_writeSubmission_48 : decode b_N_writeSubmission 48 = .ok (.invokevirtual 77, 3) := by decide +kernel
theorem d_N_writeSubmission_51 : decode b_N_writeSubmission 51 = .ok (.ifCond .ne 6, 3) := by decide +kernel
theorem d_N_writeSubmission_54 : decode b_N_writeSubmission 54 = .ok (.bipush (-7), 2) := by decide +kernel
theorem d_N_writeSubmission_56 : decode b_N_writeSubmission 56 = .ok (.ireturn, 1) := by decide +kernel
theorem d_N_writeSubmission_57 : decode b_N_writeSubmission 57 = .ok (.aload_n 0, 1) := by decide +kernel
theorem d_N_writeSubmission_58 : decode b_N_writeSubmission 58 = .ok (.dup, 1) := by decide +kernel
theorem d_N_writeSubmission_59 : decode b_N_writeSubmission 59 = .ok (.getfield 55, 3) := by decide +kernel
theorem d_N_writeSubmission_62 : decode b_N_writeSubmission 62 = .ok (.iconst 1, 1) := by decide +kernel
theorem d_N_writeSubmission_63 : decode b_N_writeSubmission 63 = .ok (.iadd, 1) := by decide +kernel
theorem d_N_writeSubmission_64 : decode b_N_writeSubmission 64 = .ok (.putfield 55, 3) := by decide +kernel
theorem d_N_writeSubmission_67 : decode b_N_writeSubmission 67 = .ok (.aload_n 0, 1) := by decide +kernel
theorem d_N_writeSubmission_68 : decode b_N_writeSubmission 68 = .ok (.getfield 55, 3) := by decide +kernel
theorem d_N_writeSubmission_71 : decode b_N_writeSubmission 71 = .ok (.ireturn, 1) := by decide +kernel
theorem d_N_writeMark_0 : decode b_N_writeMark 0 = .ok (.lconst 0, 1) := by decide +kernel
theorem d_N_writeMark_1 : decode b_N_writeMark 1 = .ok (.lstore_n 1, 1) := by decide +kernel
theorem d_N_writeMark_2 : decode b_N_writeMark 2 = .ok (.iconst 0, 1) := by decide +kernel
theorem d_N_writeMark_3 : decode b_N_writeMark 3 = .ok (.istore_n 3, 1) := by decide +kernel
theorem d_N_writeMark_4 : decode b_N_writeMark 4 = .ok (.iload_n 3, 1) := by decide +kernel
theorem d_N_writeMark_5 : decode b_N_writeMark 5 = .ok (.aload_n 0, 1) := by decide +kernel
theorem d_N_writeMark_6 : decode b_N_writeMark 6 = .ok (.getfield 38, 3) := by decide +kernel
theorem d_N_writeMark_9 : decode b_N_writeMark 9 = .ok (.if_icmp .ge 23, 3) := by decide +kernel
theorem d_N_writeMark_12 : decode b_N_writeMark 12 = .ok (.lload_n 1, 1) := by decide +kernel
theorem d_N_writeMark_13 : decode b_N_writeMark 13 = .ok (.aload_n 0, 1) := by decide +kernel
theorem d_N_writeMark_14 : decode b_N_writeMark 14 = .ok (.getfield 19, 3) := by decide +kernel
theorem d_N_writeMark_17 : decode b_N_writeMark 17 = .ok (.iload_n 3, 1) := by decide +kernel
theorem d_N_writeMark_18 : decode b_N_writeMark 18 = .ok (.iaload, 1) := by decide +kernel
theorem d_N_writeMark_19 : decode b_N_writeMark 19 = .ok (.i2l, 1) := by decide +kernel
theorem d_N_writeMark_20 : decode b_N_writeMark 20 = .ok (.iconst 3, 1) := by decide +kernel
theorem d_N_writeMark_21 : decode b_N_writeMark 21 = .ok (.iload_n 3, 1) := by decide +kernel
theorem d_N_writeMark_22 : decode b_N_writeMark 22 = .ok (.imul, 1) := by decide +kernel
theorem d_N_writeMark_23 : decode b_N_writeMark 23 = .ok (.lshl, 1) := by decide +kernel
theorem d_N_writeMark_24 : decode b_N_writeMark 24 = .ok (.lor, 1) := by decide +kernel
theorem d_N_writeMark_25 : decode b_N_writeMark 25 = .ok (.lstore_n 1, 1) := by decide +kernel
theorem d_N_writeMark_26 : decode b_N_writeMark 26 = .ok (.iinc 3 1, 3) := by decide +kernel
theorem d_N_writeMark_29 : decode b_N_writeMark 29 = .ok (.goto (-25), 3) := by decide +kernel
theorem d_N_writeMark_32 : decode b_N_writeMark 32 = .ok (.aload_n 0, 1) := by decide +kernel
theorem d_N_writeMark_33 : decode b_N_writeMark 33 = .ok (.sipush 140, 3) := by decide +kernel
theorem d_N_writeMark_36 : decode b_N_writeMark 36 = .ok (.lload_n 1, 1) := by decide +kernel
theorem d_N_writeMark_37 : decode b_N_writeMark 37 = .ok (.invokevirtual 77, 3) := by decide +kernel
theorem d_N_writeMark_40 : decode b_N_writeMark 40 = .ok (.ifCond .eq 8, 3) := by decide +kernel
theorem d_N_writeMark_43 : decode b_N_writeMark 43 = .ok (.lload_n 1, 1) := by decide +kernel
theorem d_N_writeMark_44 : decode b_N_writeMark 44 = .ok (.l2i, 1) := by decide +kernel
theorem d_N_writeMark_45 : decode b_N_writeMark 45 = .ok (.goto 5, 3) := by decide +kernel
theorem d_N_writeMark_48 : decode b_N_writeMark 48 = .ok (.bipush (-7), 2) := by decide +kernel
theorem d_N_writeMark_50 : decode b_N_writeMark 50 = .ok (.ireturn, 1) := by decide +kernel
theorem d_N_receive_0 : decode b_N_receive 0 = .ok (.aload_n 0, 1) := by decide +kernel
theorem d_N_receive_1 : decode b_N_receive 1 = .ok (.iload_n 1, 1) := by decide +kernel
theorem d_N_receive_2 : decode b_N_receive 2 = .ok (.lload_n 3, 1) := by decide +kernel
theorem d_N_receive_3 : decode b_N_receive 3 = .ok (.invokevirtual 81, 3) := by decide +kernel
theorem d_N_receive_6 : decode b_N_receive 6 = .ok (.ifCond .ne 6, 3) := by decide +kernel
theorem d_N_receive_9 : decode b_N_receive 9 = .ok (.bipush (-3), 2) := by decide +kernel
theorem d_N_receive_11 : decode b_N_receive 11 = .ok (.ireturn, 1) := by decide +kernel
theorem d_N_receive_12 : decode b_N_receive 12 = .ok (.aload_n 0, 1) := by decide +kernel
theorem d_N_receive_13 : decode b_N_receive 13 = .ok (.iload_n 1, 1) := by decide +kernel
theorem d_N_receive_14 : decode b_N_receive 14 = .ok (.iload_n 2, 1) := by decide +kernel
theorem d_N_receive_15 : decode b_N_receive 15 = .ok (.lload_n 3, 1) := by decide +kernel
theorem d_N_receive_16 : decode b_N_receive 16 = .ok (.invokevirtual 84, 3) := by decide +kernel
theorem d_N_receive_19 : decode b_N_receive 19 = .ok (.istore 5, 2) := by decide +kernel
theorem d_N_receive_21 : decode b_N_receive 21 = .ok (.iload 5, 2) := by decide +kernel
theorem d_N_receive_23 : decode b_N_receive 23 = .ok (.ifCond .ne 13, 3) := by decide +kernel
theorem d_N_receive_26 : decode b_N_receive 26 = .ok (.aload_n 0, 1) := by decide +kernel
theorem d_N_receive_27 : decode b_N_receive 27 = .ok (.iload_n 1, 1) := by decide +kernel
theorem d_N_receive_28 : decode b_N_receive 28 = .ok (.iload_n 2, 1) := by decide +kernel
theorem d_N_receive_29 : decode b_N_receive 29 = .ok (.lload_n 3, 1) := by decide +kernel
theorem d_N_receive_30 : decode b_N_receive 30 = .ok (.invokevirtual 88, 3) := by decide +kernel
theorem d_N_receive_33 : decode b_N_receive 33 = .ok (.goto 5, 3) := by decide +kernel
theorem d_N_receive_36 : decode b_N_receive 36 = .ok (.iload 5, 2) := by decide +kernel
theorem d_N_receive_38 : decode b_N_receive 38 = .ok (.ireturn, 1) := by decide +kernel
theorem d_N_wouldTake_0 : decode b_N_wouldTake 0 = .ok (.aload_n 0, 1) := by decide +kernel
theorem d_N_wouldTake_1 : decode b_N_wouldTake 1 = .ok (.getfield 9, 3) := by decide +kernel
theorem d_N_wouldTake_4 : decode b_N_wouldTake 4 = .ok (.ifCond .ne 33, 3) := by decide +kernel
theorem d_N_wouldTake_7 : decode b_N_wouldTake 7 = .ok (.aload_n 0, 1) := by decide +kernel
theorem d_N_wouldTake_8 : decode b_N_wouldTake 8 = .ok (.getfield 29, 3) := by decide +kernel
theorem d_N_wouldTake_11 : decode b_N_wouldTake 11 = .ok (.iload_n 1, 1) := by decide +kernel
theorem d_N_wouldTake_12 : decode b_N_wouldTake 12 = .ok (.bipush 7, 2) := by decide +kernel
theorem d_N_wouldTake_14 : decode b_N_wouldTake 14 = .ok (.imul, 1) := by decide +kernel
theorem d_N_wouldTake_15 : decode b_N_wouldTake 15 = .ok (.iload_n 2, 1) := by decide +kernel
theorem d_N_wouldTake_16 : decode b_N_wouldTake 16 = .ok (.iadd, 1) := by decide +kernel
theorem d_N_wouldTake_17 : decode b_N_wouldTake 17 = .ok (.laload, 1) := by decide +kernel
theorem d_N_wouldTake_18 : decode b_N_wouldTake 18 = .ok (.lload_n 3, 1) := by decide +kernel
theorem d_N_wouldTake_19 : decode b_N_wouldTake 19 = .ok (.lcmp, 1) := by decide +kernel
theorem d_N_wouldTake_20 : decode b_N_wouldTake 20 = .ok (.ifCond .eq 17, 3) := by decide +kernel
theorem d_N_wouldTake_23 : decode b_N_wouldTake 23 = .ok (.aload_n 0, 1) := by decide +kernel
theorem d_N_wouldTake_24 : decode b_N_wouldTake 24 = .ok (.iload_n 1, 1) := by decide +kernel
theorem d_N_wouldTake_25 : decode b_N_wouldTake 25 = .ok (.iload_n 2, 1) := by decide +kernel
theorem d_N_wouldTake_26 : decode b_N_wouldTake 26 = .ok (.lload_n 3, 1) := by decide +kernel
theorem d_N_wouldTake_27 : decode b_N_wouldTake 27 = .ok (.invokevirtual 84, 3) := by decide +kernel
theorem d_N_wouldTake_30 : decode b_N_wouldTake 30 = .ok (.ifCond .ne 7, 3) := by decide +kernel
theorem d_N_wouldTake_33 : decode b_N_wouldTake 33 = .ok (.iconst 1, 1) := by decide +kernel
theorem d_N_wouldTake_34 : decode b_N_wouldTake 34 = .ok (.goto 4, 3) := by decide +kernel
theorem d_N_wouldTake_37 : decode b_N_wouldTake 37 = .ok (.iconst 0, 1) := by decide +kernel
theorem d_N_wouldTake_38 : decode b_N_wouldTake 38 = .ok (.ireturn, 1) := by decide +kernel
theorem d_N_objection_0 : decode b_N_objection 0 = .ok (.iload_n 1, 1) := by decide +kernel
theorem d_N_objection_1 : decode b_N_objection 1 = .ok (.invokestatic 91, 3) := by decide +kernel
theorem d_N_objection_4 : decode b_N_objection 4 = .ok (.istore 5, 2) := by decide +kernel
theorem d_N_objection_6 : decode b_N_objection 6 = .ok (.aload_n 0, 1) := by decide +kernel
theorem d_N_objection_7 : decode b_N_objection 7 = .ok (.getfield 29, 3) := by decide +kernel
theorem d_N_objection_10 : decode b_N_objection 10 = .ok (.iload_n 1, 1) := by decide +kernel
theorem d_N_objection_11 : decode b_N_objection 11 = .ok (.bipush 7, 2) := by decide +kernel
theorem d_N_objection_13 : decode b_N_objection 13 = .ok (.imul, 1) := by decide +kernel
theorem d_N_objection_14 : decode b_N_objection 14 = .ok (.iload_n 2, 1) := by decide +kernel
theorem d_N_objection_15 : decode b_N_objection 15 = .ok (.iadd, 1) := by decide +kernel
theorem d_N_objection_16 : decode b_N_objection 16 = .ok (.laload, 1) := by decide +kernel
theorem d_N_objection_17 : decode b_N_objection 17 = .ok (.lstore 6, 2) := by decide +kernel
theorem d_N_objection_19 : decode b_N_objection 19 = .ok (.iload 5, 2) := by decide +kernel
theorem d_N_objection_21 : decode b_N_objection 21 = .ok (.iconst 4, 1) := by decide +kernel
theorem d_N_objection_22 : decode b_N_objection 22 = .ok (.if_icmp .ne 17, 3) := by decide +kernel
theorem d_N_objection_25 : decode b_N_objection 25 = .ok (.lload 6, 2) := by decide +kernel
theorem d_N_objection_27 : decode b_N_objection 27 = .ok (.lload_n 3, 1) := by decide +kernel
theorem d_N_objection_28 : decode b_N_objection 28 = .ok (.lcmp, 1) := by decide +kernel
theorem d_N_objection_29 : decode b_N_objection 29 = .ok (.ifCond .ne 8, 3) := by decide +kernel
theorem d_N_objection_32 : decode b_N_objection 32 = .ok (.bipush (-6), 2) := by decide +kernel
theorem d_N_objection_34 : decode b_N_objection 34 = .ok (.goto 4, 3) := by decide +kernel
theorem d_N_objection_37 : decode b_N_objection 37 = .ok (.iconst 0, 1) := by decide +kernel
theorem d_N_objection_38 : decode b_N_objection 38 = .ok (.ireturn, 1) := by decide +kernel
theorem d_N_objection_39 : decode b_N_objection 39 = .ok (.iload_n 1, 1) := by decide +kernel
theorem d_N_objection_40 : decode b_N_objection 40 = .ok (.invokestatic 95, 3) := by decide +kernel
theorem d_N_objection_43 : decode b_N_objection 43 = .ok (.istore 8, 2) := by decide +kernel
theorem d_N_objection_45 : decode b_N_objection 45 = .ok (.iload 5, 2) := by decide +kernel
theorem d_N_objection_47 : decode b_N_objection 47 = .ok (.ifCond .ne 12, 3) := by decide +kernel
theorem d_N_objection_50 : decode b_N_objection 50 = .ok (.iload_n 2, 1) := by decide +kernel
theorem d_N_objection_51 : decode b_N_objection 51 = .ok (.iload 8, 2) := by decide +kernel
theorem d_N_objection_53 : decode b_N_objection 53 = .ok (.if_icmp .eq 6, 3) := by decide +kernel
theorem d_N_objection_56 : decode b_N_objection 56 = .ok (.bipush (-4), 2) := by decide +kernel
theorem d_N_objection_58 : decode b_N_objection 58 = .ok (.ireturn, 1) := by decide +kernel
theorem d_N_objection_59 : decode b_N_objection 59 = .ok (.iload_n 1, 1) := by decide +kernel
theorem d_N_objection_60 : decode b_N_objection 60 = .ok (.invokestatic 98, 3) := by decide +kernel
theorem d_N_objection_63 : decode b_N_objection 63 = .ok (.aload_n 0, 1) := by decide +kernel
theorem d_N_objection_64 : decode b_N_objection 64 = .ok (.getfield 23, 3) := by decide +kernel
theorem d_N_objection_67 : decode b_N_objection 67 = .ok (.iload 8, 2) := by decide +kernel
theorem d_N_objection_69 : decode b_N_objection 69 = .ok (.iaload, 1) := by decide +kernel
theorem d_N_objection_70 : decode b_N_objection 70 = .ok (.if_icmp .gt 6, 3) := by decide +kernel
theorem d_N_objection_73 : decode b_N_objection 73 = .ok (.bipush (-5), 2) := by decide +kernel
theorem d_N_objection_75 : decode b_N_objection 75 = .ok (.ireturn, 1) := by decide +kernel
theorem d_N_objection_76 : decode b_N_objection 76 = .ok (.iload 5, 2) := by decide +kernel
theorem d_N_objection_78 : decode b_N_objection 78 = .ok (.ifCond .ne 18, 3) := by decide +kernel
theorem d_N_objection_81 : decode b_N_objection 81 = .ok (.aload_n 0, 1) := by decide +kernel
theorem d_N_objection_82 : decode b_N_objection 82 = .ok (.getfield 15, 3) := by decide +kernel
theorem d_N_objection_85 : decode b_N_objection 85 = .ok (.iconst 1, 1) := by decide +kernel
theorem d_N_objection_86 : decode b_N_objection 86 = .ok (.iload_n 1, 1) := by decide +kernel
theorem d_N_objection_87 : decode b_N_objection 87 = .ok (.invokestatic 101, 3) := by decide +kernel
theorem d_N_objection_90 : decode b_N_objection 90 = .ok (.invokestatic 104, 3) := by decide +kernel
theorem d_N_objection_93 : decode b_N_objection 93 = .ok (.laload, 1) := by decide +kernel
theorem d_N_objection_94 : decode b_N_objection 94 = .ok (.lstore 6, 2) := by decide +kernel
theorem d_N_objection_96 : decode b_N_objection 96 = .ok (.lload 6, 2) := by decide +kernel
theorem d_N_objection_98 : decode b_N_objection 98 = .ok (.ldc2_w 44, 3) := by decide +kernel
theorem d_N_objection_101 : decode b_N_objection 101 = .ok (.lcmp, 1) := by decide +kernel
theorem d_N_objection_102 : decode b_N_objection 102 = .ok (.ifCond .ne 7, 3) := by decide +kernel
theorem d_N_objection_105 : decode b_N_objection 105 = .ok (.iconst 0, 1) := by decide +kernel
theorem d_N_objection_106 : decode b_N_objection 106 = .ok (.goto 5, 3) := by decide +kernel
theorem d_N_objection_109 : decode b_N_objection 109 = .ok (.bipush (-6), 2) := by decide +kernel
theorem d_N_objection_111 : decode b_N_objection 111 = .ok (.ireturn, 1) := by decide +kernel
theorem d_N_countTellers_0 : decode b_N_countTellers 0 = .ok (.iconst 0, 1) := by decide +kernel
theorem d_N_countTellers_1 : decode b_N_countTellers 1 = .ok (.istore_n 2, 1) := by decide +kernel
theorem d_N_countTellers_2 : decode b_N_countTellers 2 = .ok (.iconst 0, 1) := by decide +kernel
theorem d_N_countTellers_3 : decode b_N_countTellers 3 = .ok (.istore_n 3, 1) := by decide +kernel
theorem d_N_countTellers_4 : decode b_N_countTellers 4 = .ok (.iload_n 3, 1) := by decide +kernel
theorem d_N_countTellers_5 : decode b_N_countTellers 5 = .ok (.aload_n 0, 1) := by decide +kernel
theorem d_N_countTellers_6 : decode b_N_countTellers 6 = .ok (.getfield 38, 3) := by decide +kernel
theorem d_N_countTellers_9 : decode b_N_countTellers 9 = .ok (.if_icmp .ge 30, 3) := by decide +kernel
theorem d_N_countTellers_12 : decode b_N_countTellers 12 = .ok (.aload_n 0, 1) := by decide +kernel
theorem d_N_countTellers_13 : decode b_N_countTellers 13 = .ok (.getfield 29, 3) := by decide +kernel
theorem d_N_countTellers_16 : decode b_N_countTellers 16 = .ok (.iload_n 1, 1) := by decide +kernel
theorem d_N_countTellers_17 : decode b_N_countTellers 17 = .ok (.bipush 7, 2) := by decide +kernel
theorem d_N_countTellers_19 : decode b_N_countTellers 19 = .ok (.imul, 1) := by decide +kernel
theorem d_N_countTellers_20 : decode b_N_countTellers 20 = .ok (.iload_n 3, 1) := by decide +kernel
theorem d_N_countTellers_21 : decode b_N_countTellers 21 = .ok (.iadd, 1) := by decide +kernel
theorem d_N_countTellers_22 : decode b_N_countTellers 22 = .ok (.laload, 1) := by decide +kernel
theorem d_N_countTellers_23 : decode b_N_countTellers 23 = .ok (.ldc2_w 44, 3) := by decide +kernel
theorem d_N_countTellers_26 : decode b_N_countTellers 26 = .ok (.lcmp, 1) := by decide +kernel
theorem d_N_countTellers_27 : decode b_N_countTellers 27 = .ok (.ifCond .eq 6, 3) := by decide +kernel
theorem d_N_countTellers_30 : decode b_N_countTellers 30 = .ok (.iinc 2 1, 3) := by decide +kernel
theorem d_N_countTellers_33 : decode b_N_countTellers 33 = .ok (.iinc 3 1, 3) := by decide +kernel
theorem d_N_countTellers_36 : decode b_N_countTellers 36 = .ok (.goto (-32), 3) := by decide +kernel
theorem d_N_countTellers_39 : decode b_N_countTellers 39 = .ok (.iload_n 2, 1) := by decide +kernel
theorem d_N_countTellers_40 : decode b_N_countTellers 40 = .ok (.ireturn, 1) := by decide +kernel
theorem d_N_countKept_0 : decode b_N_countKept 0 = .ok (.iconst 0, 1) := by decide +kernel
theorem d_N_countKept_1 : decode b_N_countKept 1 = .ok (.istore_n 1, 1) := by decide +kernel
theorem d_N_countKept_2 : decode b_N_countKept 2 = .ok (.iconst 0, 1) := by decide +kernel
theorem d_N_countKept_3 : decode b_N_countKept 3 = .ok (.istore_n 2, 1) := by decide +kernel
theorem d_N_countKept_4 : decode b_N_countKept 4 = .ok (.iload_n 2, 1) := by decide +kernel
theorem d_N_countKept_5 : decode b_N_countKept 5 = .ok (.bipush 35, 2) := by decide +kernel
theorem d_N_countKept_7 : decode b_N_countKept 7 = .ok (.if_icmp .ge 20, 3) := by decide +kernel
theorem d_N_countKept_10 : decode b_N_countKept 10 = .ok (.aload_n 0, 1) := by decide +kernel
theorem d_N_countKept_11 : decode b_N_countKept 11 = .ok (.iload_n 2, 1) := by decide +kernel
theorem d_N_countKept_12 : decode b_N_countKept 12 = .ok (.invokevirtual 108, 3) := by decide +kernel
theorem d_N_countKept_15 : decode b_N_countKept 15 = .ok (.ifCond .eq 6, 3) := by decide +kernel
theorem d_N_countKept_18 : decode b_N_countKept 18 = .ok (.iinc 1 1, 3) := by decide +kernel
theorem d_N_countKept_21 : decode b_N_countKept 21 = .ok (.iinc 2 1, 3) := by decide +kernel
theorem d_N_countKept_24 : decode b_N_countKept 24 = .ok (.goto (-20), 3) := by decide +kernel
theorem d_N_countKept_27 : decode b_N_countKept 27 = .ok (.iload_n 1, 1) := by decide +kernel
theorem d_N_countKept_28 : decode b_N_countKept 28 = .ok (.ireturn, 1) := by decide +kernel
theorem d_N_keeps_0 : decode b_N_keeps 0 = .ok (.aload_n 0, 1) := by decide +kernel
theorem d_N_keeps_1 : decode b_N_keeps 1 = .ok (.getfield 15, 3) := by decide +kernel
theorem d_N_keeps_4 : decode b_N_keeps 4 = .ok (.iconst 1, 1) := by decide +kernel
theorem d_N_keeps_5 : decode b_N_keeps 5 = .ok (.iload_n 1, 1) := by decide +kernel
theorem d_N_keeps_6 : decode b_N_keeps 6 = .ok (.invokestatic 104, 3) := by decide +kernel
theorem d_N_keeps_9 : decode b_N_keeps 9 = .ok (.laload, 1) := by decide +kernel
theorem d_N_keeps_10 : decode b_N_keeps 10 = .ok (.ldc2_w 44, 3) := by decide +kernel
theorem d_N_keeps_13 : decode b_N_keeps 13 = .ok (.lcmp, 1) := by decide +kernel
theorem d_N_keeps_14 : decode b_N_keeps 14 = .ok (.ifCond .ne 20, 3) := by decide +kernel
theorem d_N_keeps_17 : decode b_N_keeps 17 = .ok (.aload_n 0, 1) := by decide +kernel
theorem d_N_keeps_18 : decode b_N_keeps 18 = .ok (.getfield 15, 3) := by decide +kernel
theorem d_N_keeps_21 : decode b_N_keeps 21 = .ok (.iconst 2, 1) := by decide +kernel
theorem d_N_keeps_22 : decode b_N_keeps 22 = .ok (.iload_n 1, 1) := by decide +kernel
theorem d_N_keeps_23 : decode b_N_keeps 23 = .ok (.invokestatic 104, 3) := by decide +kernel
theorem d_N_keeps_26 : decode b_N_keeps 26 = .ok (.laload, 1) := by decide +kernel
theorem d_N_keeps_27 : decode b_N_keeps 27 = .ok (.ldc2_w 44, 3) := by decide +kernel
theorem d_N_keeps_30 : decode b_N_keeps 30 = .ok (.lcmp, 1) := by decide +kernel
theorem d_N_keeps_31 : decode b_N_keeps 31 = .ok (.ifCond .eq 5, 3) := by decide +kernel
theorem d_N_keeps_34 : decode b_N_keeps 34 = .ok (.iconst 1, 1) := by decide +kernel
theorem d_N_keeps_35 : decode b_N_keeps 35 = .ok (.ireturn, 1) := by decide +kernel
theorem d_N_keeps_36 : decode b_N_keeps 36 = .ok (.aload_n 0, 1) := by decide +kernel
theorem d_N_keeps_37 : decode b_N_keeps 37 = .ok (.iconst 1, 1) := by decide +kernel
theorem d_N_keeps_38 : decode b_N_keeps 38 = .ok (.iload_n 1, 1) := by decide +kernel
theorem d_N_keeps_39 : decode b_N_keeps 39 = .ok (.invokestatic 104, 3) := by decide +kernel
theorem d_N_keeps_42 : decode b_N_keeps 42 = .ok (.invokevirtual 112, 3) := by decide +kernel
theorem d_N_keeps_45 : decode b_N_keeps 45 = .ok (.ifCond .gt 27, 3) := by decide +kernel
theorem d_N_keeps_48 : decode b_N_keeps 48 = .ok (.aload_n 0, 1) := by decide +kernel
theorem d_N_keeps_49 : decode b_N_keeps 49 = .ok (.iconst 2, 1) := by decide +kernel
theorem d_N_keeps_50 : decode b_N_keeps 50 = .ok (.iload_n 1, 1) := by decide +kernel
theorem d_N_keeps_51 : decode b_N_keeps 51 = .ok (.invokestatic 104, 3) := by decide +kernel
theorem d_N_keeps_54 : decode b_N_keeps 54 = .ok (.invokevirtual 112, 3) := by decide +kernel
theorem d_N_keeps_57 : decode b_N_keeps 57 = .ok (.ifCond .gt 15, 3) := by decide +kernel
theorem d_N_keeps_60 : decode b_N_keeps 60 = .ok (.aload_n 0, 1) := by decide +kernel
theorem d_N_keeps_61 : decode b_N_keeps 61 = .ok (.iconst 3, 1) := by decide +kernel
theorem d_N_keeps_62 : decode b_N_keeps 62 = .ok (.iload_n 1, 1) := by decide +kernel
theorem d_N_keeps_63 : decode b_N_keeps 63 = .ok (.invokestatic 104, 3) := by decide +kernel
theorem d_N_keeps_66 : decode b_N_keeps 66 = .ok (.invokevirtual 112, 3) := by decide +kernel
theorem d_N_keeps_69 : decode b_N_keeps 69 = .ok (.ifCond .le 7, 3) := by decide +kernel
theorem d_N_keeps_72 : decode b_N_keeps 72 = .ok (.iconst 1, 1) := by decide +kernel
theorem d_N_keeps_73 : decode b_N_keeps 73 = .ok (.goto 4, 3) := by decide +kernel
theorem d_N_keeps_76 : decode b_N_keeps 76 = .ok (.iconst 0, 1) := by decide +kernel
theorem d_N_keeps_77 : decode b_N_keeps 77 = .ok (.ireturn, 1) := by decide +kernel
theorem d_N_isWellFormed_0 : decode b_N_isWellFormed 0 = .ok (.iload_n 1, 1) := by decide +kernel
theorem d_N_isWellFormed_1 : decode b_N_isWellFormed 1 = .ok (.sipush 140, 3) := by decide +kernel
theorem d_N_isWellFormed_4 : decode b_N_isWellFormed 4 = .ok (.if_icmp .ne 12, 3) := by decide +kernel
theorem d_N_isWellFormed_7 : decode b_N_isWellFormed 7 = .ok (.lload_n 2, 1) := by decide +kernel
theorem d_N_isWellFormed_8 : decode b_N_isWellFormed 8 = .ok (.aload_n 0, 1) := by decide +kernel
theorem d_N_isWellFormed_9 : decode b_N_isWellFormed 9 = .ok (.getfield 38, 3) := by decide +kernel
theorem d_N_isWellFormed_12 : decode b_N_isWellFormed 12 = .ok (.invokestatic 115, 3) := by decide +kernel
theorem d_N_isWellFormed_15 : decode b_N_isWellFormed 15 = .ok (.ireturn, 1) := by decide +kernel
theorem d_N_isWellFormed_16 : decode b_N_isWellFormed 16 = .ok (.lload_n 2, 1) := by decide +kernel
theorem d_N_isWellFormed_17 : decode b_N_isWellFormed 17 = .ok (.iload_n 1, 1) := by decide +kernel
theorem d_N_isWellFormed_18 : decode b_N_isWellFormed 18 = .ok (.invokestatic 95, 3) := by decide +kernel
theorem d_N_isWellFormed_21 : decode b_N_isWellFormed 21 = .ok (.aload_n 0, 1) := by decide +kernel
theorem d_N_isWellFormed_22 : decode b_N_isWellFormed 22 = .ok (.getfield 38, 3) := by decide +kernel
theorem d_N_isWellFormed_25 : decode b_N_isWellFormed 25 = .ok (.invokestatic 119, 3) := by decide +kernel
theorem d_N_isWellFormed_28 : decode b_N_isWellFormed 28 = .ok (.ireturn, 1) := by decide +kernel
theorem d_N_take_0 : decode b_N_take 0 = .ok (.iload_n 1, 1) := by decide +kernel
theorem d_N_take_1 : decode b_N_take 1 = .ok (.invokestatic 91, 3) := by decide +kernel
theorem d_N_take_4 : decode b_N_take 4 = .ok (.istore 5, 2) := by decide +kernel
theorem d_N_take_6 : decode b_N_take 6 = .ok (.iload_n 1, 1) := by decide +kernel
theorem d_N_take_7 : decode b_N_take 7 = .ok (.invokestatic 101, 3) := by decide +kernel
theorem d_N_take_10 : decode b_N_take 10 = .ok (.istore 6, 2) := by decide +kernel
theorem d_N_take_12 : decode b_N_take 12 = .ok (.iload 5, 2) := by decide +kernel
theorem d_N_take_14 : decode b_N_take 14 = .ok (.ifCond .ne 24, 3) := by decide +kernel
theorem d_N_take_17 : decode b_N_take 17 = .ok (.aload_n 0, 1) := by decide +kernel
theorem d_N_take_18 : decode b_N_take 18 = .ok (.iconst 1, 1) := by decide +kernel
theorem d_N_take_19 : decode b_N_take 19 = .ok (.iload 6, 2) := by decide +kernel
theorem d_N_take_21 : decode b_N_take 21 = .ok (.invokestatic 104, 3) := by decide +kernel
theorem d_N_take_24 : decode b_N_take 24 = .ok (.lload_n 3, 1) := by decide +kernel
theorem d_N_take_25 : decode b_N_take 25 = .ok (.invokevirtual 77, 3) := by decide +kernel
theorem d_N_take_28 : decode b_N_take 28 = .ok (.ifCond .eq 7, 3) := by decide +kernel
theorem d_N_take_31 : decode b_N_take 31 = .ok (.iconst 0, 1) := by decide +kernel
theorem d_N_take_32 : decode b_N_take 32 = .ok (.goto 5, 3) := by decide +kernel
theorem d_N_take_35 : decode b_N_take 35 = .ok (.bipush (-7), 2) := by decide +kernel
theorem d_N_take_37 : decode b_N_take 37 = .ok (.ireturn, 1) := by decide +kernel
theorem d_N_take_38 : decode b_N_take 38 = .ok (.aload_n 0, 1) := by decide +kernel
theorem d_N_take_39 : decode b_N_take 39 = .ok (.getfield 29, 3) := by decide +kernel
theorem d_N_take_42 : decode b_N_take 42 = .ok (.iload_n 1, 1) := by decide +kernel
theorem d_N_take_43 : decode b_N_take 43 = .ok (.bipush 7, 2) := by decide +kernel
theorem d_N_take_45 : decode b_N_take 45 = .ok (.imul, 1) := by decide +kernel
theorem d_N_take_46 : decode b_N_take 46 = .ok (.iload_n 2, 1) := by decide +kernel
theorem d_N_take_47 : decode b_N_take 47 = .ok (.iadd, 1) := by decide +kernel
theorem d_N_take_48 : decode b_N_take 48 = .ok (.lload_n 3, 1) := by decide +kernel
theorem d_N_take_49 : decode b_N_take 49 = .ok (.lastore, 1) := by decide +kernel
theorem d_N_take_50 : decode b_N_take 50 = .ok (.iload 5, 2) := by decide +kernel
theorem d_N_take_52 : decode b_N_take 52 = .ok (.iconst 4, 1) := by decide +kernel
theorem d_N_take_53 : decode b_N_take 53 = .ok (.if_icmp .ne 9, 3) := by decide +kernel
theorem d_N_take_56 : decode b_N_take 56 = .ok (.aload_n 0, 1) := by decide +kernel
theorem d_N_take_57 : decode b_N_take 57 = .ok (.invokevirtual 122, 3) := by decide +kernel
theorem d_N_take_60 : decode b_N_take 60 = .ok (.iconst 0, 1) := by decide +kernel
theorem d_N_take_61 : decode b_N_take 61 = .ok (.ireturn, 1) := by decide +kernel
theorem d_N_take_62 : decode b_N_take 62 = .ok (.aload_n 0, 1) := by decide +kernel
theorem d_N_take_63 : decode b_N_take 63 = .ok (.iload 5, 2) := by decide +kernel
theorem d_N_take_65 : decode b_N_take 65 = .ok (.iload 6, 2) := by decide +kernel
theorem d_N_take_67 : decode b_N_take 67 = .ok (.lload_n 3, 1) := by decide +kernel
theorem d_N_take_68 : decode b_N_take 68 = .ok (.invokevirtual 125, 3) := by decide +kernel
theorem d_N_take_71 : decode b_N_take 71 = .ok (.ifCond .eq 20, 3) := by decide +kernel
theorem d_N_take_74 : decode b_N_take 74 = .ok (.aload_n 0, 1) := by decide +kernel
theorem d_N_take_75 : decode b_N_take 75 = .ok (.iconst 2, 1) := by decide +kernel
theorem d_N_take_76 : decode b_N_take 76 = .ok (.iload 6, 2) := by decide +kernel
theorem d_N_take_78 : decode b_N_take 78 = .ok (.invokestatic 104, 3) := by decide +kernel
theorem d_N_take_81 : decode b_N_take 81 = .ok (.lload_n 3, 1) := by decide +kernel
theorem d_N_take_82 : decode b_N_take 82 = .ok (.invokevirtual 77, 3) := by decide +kernel
theorem d_N_take_85 : decode b_N_take 85 = .ok (.ifCond .ne 6, 3) := by decide +kernel
theorem d_N_take_88 : decode b_N_take 88 = .ok (.bipush (-7), 2) := by decide +kernel
theorem d_N_take_90 : decode b_N_take 90 = .ok (.ireturn, 1) := by decide +kernel
theorem d_N_take_91 : decode b_N_take 91 = .ok (.aload_n 0, 1) := by decide +kernel
theorem d_N_take_92 : decode b_N_take 92 = .ok (.iload 6, 2) := by decide +kernel
theorem d_N_take_94 : decode b_N_take 94 = .ok (.lload_n 3, 1) := by decide +kernel
theorem d_N_take_95 : decode b_N_take 95 = .ok (.invokevirtual 129, 3) := by decide +kernel
theorem d_N_take_98 : decode b_N_take 98 = .ok (.ifCond .eq 11, 3) := by decide +kernel
theorem d_N_take_101 : decode b_N_take 101 = .ok (.aload_n 0, 1) := by decide +kernel
theorem d_N_take_102 : decode b_N_take 102 = .ok (.getfield 32, 3) := by decide +kernel
theorem d_N_take_105 : decode b_N_take 105 = .ok (.iload 6, 2) := by decide +kernel
theorem d_N_take_107 : decode b_N_take 107 = .ok (.lload_n 3, 1) := by decide +kernel
theorem d_N_take_108 : decode b_N_take 108 = .ok (.lastore, 1) := by decide +kernel
theorem d_N_take_109 : decode b_N_take 109 = .ok (.aload_n 0, 1) := by decide +kernel
theorem d_N_take_110 : decode b_N_take 110 = .ok (.invokevirtual 132, 3) := by decide +kernel
theorem d_N_take_113 : decode b_N_take 113 = .ok (.ireturn, 1) := by decide +kernel
theorem d_N_callsForReady_0 : decode b_N_callsForReady 0 = .ok (.aload_n 0, 1) := by decide +kernel
theorem d_N_callsForReady_1 : decode b_N_callsForReady 1 = .ok (.getfield 15, 3) := by decide +kernel
theorem d_N_callsForReady_4 : decode b_N_callsForReady 4 = .ok (.iconst 2, 1) := by decide +kernel
theorem d_N_callsForReady_5 : decode b_N_callsForReady 5 = .ok (.iload_n 2, 1) := by decide +kernel
theorem d_N_callsForReady_6 : decode b_N_callsForReady 6 = .ok (.invokestatic 104, 3) := by decide +kernel
theorem d_N_callsForReady_9 : decode b_N_callsForReady 9 = .ok (.laload, 1) := by decide +kernel
theorem d_N_callsForReady_10 : decode b_N_callsForReady 10 = .ok (.ldc2_w 44, 3) := by decide +kernel
theorem d_N_callsForReady_13 : decode b_N_callsForReady 13 = .ok (.lcmp, 1) := by decide +kernel
theorem d_N_callsForReady_14 : decode b_N_callsForReady 14 = .ok (.ifCond .eq 5, 3) := by decide +kernel
theorem d_N_callsForReady_17 : decode b_N_callsForReady 17 = .ok (.iconst 0, 1) := by decide +kernel
theorem d_N_callsForReady_18 : decode b_N_callsForReady 18 = .ok (.ireturn, 1) := by decide +kernel
theorem d_N_callsForReady_19 : decode b_N_callsForReady 19 = .ok (.iload_n 1, 1) := by decide +kernel
theorem d_N_callsForReady_20 : decode b_N_callsForReady 20 = .ok (.iconst 1, 1) := by decide +kernel
theorem d_N_callsForReady_21 : decode b_N_callsForReady 21 = .ok (.if_icmp .ne 35, 3) := by decide +kernel
theorem d_N_callsForReady_24 : decode b_N_callsForReady 24 = .ok (.aload_n 0, 1) := by decide +kernel
theorem d_N_callsForReady_25 : decode b_N_callsForReady 25 = .ok (.iconst 1, 1) := by decide +kernel
theorem d_N_callsForReady_26 : decode b_N_callsForReady 26 = .ok (.iload_n 2, 1) := by decide +kernel
theorem d_N_callsForReady_27 : decode b_N_callsForReady 27 = .ok (.invokestatic 104, 3) := by decide +kernel
theorem d_N_callsForReady_30 : decode b_N_callsForReady 30 = .ok (.lload_n 3, 1) := by decide +kernel
theorem d_N_callsForReady_31 : decode b_N_callsForReady 31 = .ok (.invokevirtual 136, 3) := by decide +kernel
theorem d_N_callsForReady_34 : decode b_N_callsForReady 34 = .ok (.aload_n 0, 1) := by decide +kernel
theorem d_N_callsForReady_35 : decode b_N_callsForReady 35 = .ok (.getfield 38, 3) := by decide +kernel
theorem d_N_callsForReady_38 : decode b_N_callsForReady 38 = .ok (.aload_n 0, 1) := by decide +kernel
theorem d_N_callsForReady_39 : decode b_N_callsForReady 39 = .ok (.getfield 41, 3) := by decide +kernel
theorem d_N_callsForReady_42 : decode b_N_callsForReady 42 = .ok (.iadd, 1) := by decide +kernel
theorem d_N_callsForReady_43 : decode b_N_callsForReady 43 = .ok (.iconst 2, 1) := by decide +kernel
theorem d_N_callsForReady_44 : decode b_N_callsForReady 44 = .ok (.idiv, 1) := by decide +kernel
theorem d_N_callsForReady_45 : decode b_N_callsForReady 45 = .ok (.iconst 1, 1) := by decide +kernel
theorem d_N_callsForReady_46 : decode b_N_callsForReady 46 = .ok (.iadd, 1) := by decide +kernel
theorem d_N_callsForReady_47 : decode b_N_callsForReady 47 = .ok (.if_icmp .lt 7, 3) := by decide +kernel
theorem d_N_callsForReady_50 : decode b_N_callsForReady 50 = .ok (.iconst 1, 1) := by decide +kernel
theorem d_N_callsForReady_51 : decode b_N_callsForReady 51 = .ok (.goto 4, 3) := by decide +kernel
theorem d_N_callsForReady_54 : decode b_N_callsForReady 54 = .ok (.iconst 0, 1) := by decide +kernel
theorem d_N_callsForReady_55 : decode b_N_callsForReady 55 = .ok (.ireturn, 1) := by decide +kernel
theorem d_N_callsForReady_56 : decode b_N_callsForReady 56 = .ok (.iload_n 1, 1) := by decide +kernel
theorem d_N_callsForReady_57 : decode b_N_callsForReady 57 = .ok (.iconst 2, 1) := by decide +kernel
theorem d_N_callsForReady_58 : decode b_N_callsForReady 58 = .ok (.if_icmp .ne 26, 3) := by decide +kernel
theorem d_N_callsForReady_61 : decode b_N_callsForReady 61 = .ok (.aload_n 0, 1) := by decide +kernel
theorem d_N_callsForReady_62 : decode b_N_callsForReady 62 = .ok (.iconst 2, 1) := by decide +kernel
theorem d_N_callsForReady_63 : decode b_N_callsForReady 63 = .ok (.iload_n 2, 1) := by decide +kernel
theorem d_N_callsForReady_64 : decode b_N_callsForReady 64 = .ok (.invokestatic 104, 3) := by decide +kernel
theorem d_N_callsForReady_67 : decode b_N_callsForReady 67 = .ok (.lload_n 3, 1) := by decide +kernel
theorem d_N_callsForReady_68 : decode b_N_callsForReady 68 = .ok (.invokevirtual 136, 3) := by decide +kernel
theorem d_N_callsForReady_71 : decode b_N_callsForReady 71 = .ok (.aload_n 0, 1) := by decide +kernel
theorem d_N_callsForReady_72 : decode b_N_callsForReady 72 = .ok (.getfield 41, 3) := by decide +kernel
theorem d_N_callsForReady_75 : decode b_N_callsForReady 75 = .ok (.iconst 1, 1) := by decide +kernel
theorem d_N_callsForReady_76 : decode b_N_callsForReady 76 = .ok (.iadd, 1) := by decide +kernel
theorem d_N_callsForReady_77 : decode b_N_callsForReady 77 = .ok (.if_icmp .lt 7, 3) := by decide +kernel
theorem d_N_callsForReady_80 : decode b_N_callsForReady 80 = .ok (.iconst 1, 1) := by decide +kernel
theorem d_N_callsForReady_81 : decode b_N_callsForReady 81 = .ok (.goto 4, 3) := by decide +kernel
theorem d_N_callsForReady_84 : decode b_N_callsForReady 84 = .ok (.iconst 0, 1) := by decide +kernel
theorem d_N_callsForReady_85 : decode b_N_callsForReady 85 = .ok (.ireturn, 1) := by decide +kernel
theorem d_N_isAcceptable_0 : decode b_N_isAcceptable 0 = .ok (.iload_n 1, 1) := by decide +kernel
theorem d_N_isAcceptable_1 : decode b_N_isAcceptable 1 = .ok (.invokestatic 98, 3) := by decide +kernel
theorem d_N_isAcceptable_4 : decode b_N_isAcceptable 4 = .ok (.aload_n 0, 1) := by decide +kernel
theorem d_N_isAcceptable_5 : decode b_N_isAcceptable 5 = .ok (.getfield 19, 3) := by decide +kernel
theorem d_N_isAcceptable_8 : decode b_N_isAcceptable 8 = .ok (.iload_n 1, 1) := by decide +kernel
theorem d_N_isAcceptable_9 : decode b_N_isAcceptable 9 = .ok (.invokestatic 95, 3) := by decide +kernel
theorem d_N_isAcceptable_12 : decode b_N_isAcceptable 12 = .ok (.iaload, 1) := by decide +kernel
theorem d_N_isAcceptable_13 : decode b_N_isAcceptable 13 = .ok (.if_icmp .le 16, 3) := by decide +kernel
theorem d_N_isAcceptable_16 : decode b_N_isAcceptable 16 = .ok (.aload_n 0, 1) := by decide +kernel
theorem d_N_isAcceptable_17 : decode b_N_isAcceptable 17 = .ok (.getfield 32, 3) := by decide +kernel
theorem d_N_isAcceptable_20 : decode b_N_isAcceptable 20 = .ok (.iload_n 1, 1) := by decide +kernel
theorem d_N_isAcceptable_21 : decode b_N_isAcceptable 21 = .ok (.laload, 1) := by decide +kernel
theorem d_N_isAcceptable_22 : decode b_N_isAcceptable 22 = .ok (.ldc2_w 44, 3) := by decide +kernel
theorem d_N_isAcceptable_25 : decode b_N_isAcceptable 25 = .ok (.lcmp, 1) := by decide +kernel
theorem d_N_isAcceptable_26 : decode b_N_isAcceptable 26 = .ok (.ifCond .eq 5, 3) := by decide +kernel
theorem d_N_isAcceptable_29 : decode b_N_isAcceptable 29 = .ok (.iconst 0, 1) := by decide +kernel
theorem d_N_isAcceptable_30 : decode b_N_isAcceptable 30 = .ok (.ireturn, 1) := by decide +kernel
theorem d_N_isAcceptable_31 : decode b_N_isAcceptable 31 = .ok (.aload_n 0, 1) := by decide +kernel
theorem d_N_isAcceptable_32 : decode b_N_isAcceptable 32 = .ok (.iconst 2, 1) := by decide +kernel
theorem d_N_isAcceptable_33 : decode b_N_isAcceptable 33 = .ok (.iload_n 1, 1) := by decide +kernel
theorem d_N_isAcceptable_34 : decode b_N_isAcceptable 34 = .ok (.invokestatic 104, 3) := by decide +kernel
theorem d_N_isAcceptable_37 : decode b_N_isAcceptable 37 = .ok (.lload_n 2, 1) := by decide +kernel
theorem d_N_isAcceptable_38 : decode b_N_isAcceptable 38 = .ok (.invokevirtual 136, 3) := by decide +kernel
theorem d_N_isAcceptable_41 : decode b_N_isAcceptable 41 = .ok (.iconst 2, 1) := by decide +kernel
theorem d_N_isAcceptable_42 : decode b_N_isAcceptable 42 = .ok (.aload_n 0, 1) := by decide +kernel
theorem d_N_isAcceptable_43 : decode b_N_isAcceptable 43 = .ok (.getfield 41, 3) := by decide +kernel
theorem d_N_isAcceptable_46 : decode b_N_isAcceptable 46 = .ok (.imul, 1) := by decide +kernel
theorem d_N_isAcceptable_47 : decode b_N_isAcceptable 47 = .ok (.iconst 1, 1) := by decide +kernel
theorem d_N_isAcceptable_48 : decode b_N_isAcceptable 48 = .ok (.iadd, 1) := by decide +kernel
theorem d_N_isAcceptable_49 : decode b_N_isAcceptable 49 = .ok (.if_icmp .ge 22, 3) := by decide +kernel
theorem d_N_isAcceptable_52 : decode b_N_isAcceptable 52 = .ok (.aload_n 0, 1) := by decide +kernel
theorem d_N_isAcceptable_53 : decode b_N_isAcceptable 53 = .ok (.iconst 3, 1) := by decide +kernel
theorem d_N_isAcceptable_54 : decode b_N_isAcceptable 54 = .ok (.iload_n 1, 1) := by decide +kernel
theorem d_N_isAcceptable_55 : decode b_N_isAcceptable 55 = .ok (.invokestatic 104, 3) := by decide +kernel
theorem d_N_isAcceptable_58 : decode b_N_isAcceptable 58 = .ok (.lload_n 2, 1) := by decide +kernel
theorem d_N_isAcceptable_59 : decode b_N_isAcceptable 59 = .ok (.invokevirtual 136, 3) := by decide +kernel
theorem d_N_isAcceptable_62 : decode b_N_isAcceptable 62 = .ok (.aload_n 0, 1) := by decide +kernel
theorem d_N_isAcceptable_63 : decode b_N_isAcceptable 63 = .ok (.getfield 41, 3) := by decide +kernel
theorem d_N_isAcceptable_66 : decode b_N_isAcceptable 66 = .ok (.iconst 1, 1) := by decide +kernel
theorem d_N_isAcceptable_67 : decode b_N_isAcceptable 67 = .ok (.iadd, 1) := by decide +kernel
theorem d_N_isAcceptable_68 : decode b_N_isAcceptable 68 = .ok (.if_icmp .lt 7, 3) := by decide +kernel
theorem d_N_isAcceptable_71 : decode b_N_isAcceptable 71 = .ok (.iconst 1, 1) := by decide +kernel
theorem d_N_isAcceptable_72 : decode b_N_isAcceptable 72 = .ok (.goto 4, 3) := by decide +kernel
theorem d_N_isAcceptable_75 : decode b_N_isAcceptable 75 = .ok (.iconst 0, 1) := by decide +kernel
theorem d_N_isAcceptable_76 : decode b_N_isAcceptable 76 = .ok (.ireturn, 1) := by decide +kernel
theorem d_N_countTellersOf_0 : decode b_N_countTellersOf 0 = .ok (.iconst 0, 1) := by decide +kernel
theorem d_N_countTellersOf_1 : decode b_N_countTellersOf 1 = .ok (.istore 4, 2) := by decide +kernel
theorem d_N_countTellersOf_3 : decode b_N_countTellersOf 3 = .ok (.iconst 0, 1) := by decide +kernel
theorem d_N_countTellersOf_4 : decode b_N_countTellersOf 4 = .ok (.istore 5, 2) := by decide +kernel
theorem d_N_countTellersOf_6 : decode b_N_countTellersOf 6 = .ok (.iload 5, 2) := by decide +kernel
theorem d_N_countTellersOf_8 : decode b_N_countTellersOf 8 = .ok (.aload_n 0, 1) := by decide +kernel
theorem d_N_countTellersOf_9 : decode b_N_countTellersOf 9 = .ok (.getfield 38, 3) := by decide +kernel
theorem d_N_countTellersOf_12 : decode b_N_countTellersOf 12 = .ok (.if_icmp .ge 29, 3) := by decide +kernel
theorem d_N_countTellersOf_15 : decode b_N_countTellersOf 15 = .ok (.aload_n 0, 1) := by decide +kernel
theorem d_N_countTellersOf_16 : decode b_N_countTellersOf 16 = .ok (.getfield 29, 3) := by decide +kernel
theorem d_N_countTellersOf_19 : decode b_N_countTellersOf 19 = .ok (.iload_n 1, 1) := by decide +kernel
theorem d_N_countTellersOf_20 : decode b_N_countTellersOf 20 = .ok (.bipush 7, 2) := by decide +kernel
theorem d_N_countTellersOf_22 : decode b_N_countTellersOf 22 = .ok (.imul, 1) := by decide +kernel
theorem d_N_countTellersOf_23 : decode b_N_countTellersOf 23 = .ok (.iload 5, 2) := by decide +kernel
theorem d_N_countTellersOf_25 : decode b_N_countTellersOf 25 = .ok (.iadd, 1) := by decide +kernel
theorem d_N_countTellersOf_26 : decode b_N_countTellersOf 26 = .ok (.laload, 1) := by decide +kernel
theorem d_N_countTellersOf_27 : decode b_N_countTellersOf 27 = .ok (.lload_n 2, 1) := by decide +kernel
theorem d_N_countTellersOf_28 : decode b_N_countTellersOf 28 = .ok (.lcmp, 1) := by decide +kernel
theorem d_N_countTellersOf_29 : decode b_N_countTellersOf 29 = .ok (.ifCond .ne 6, 3) := by decide +kernel
theorem d_N_countTellersOf_32 : decode b_N_countTellersOf 32 = .ok (.iinc 4 1, 3) := by decide +kernel
theorem d_N_countTellersOf_35 : decode b_N_countTellersOf 35 = .ok (.iinc 5 1, 3) := by decide +kernel
theorem d_N_countTellersOf_38 : decode b_N_countTellersOf 38 = .ok (.goto (-32), 3) := by decide +kernel
theorem d_N_countTellersOf_41 : decode b_N_countTellersOf 41 = .ok (.iload 4, 2) := by decide +kernel
theorem d_N_countTellersOf_43 : decode b_N_countTellersOf 43 = .ok (.ireturn, 1) := by decide +kernel
theorem d_N_applyWhatIsValid_0 : decode b_N_applyWhatIsValid 0 = .ok (.iconst 0, 1) := by decide +kernel
theorem d_N_applyWhatIsValid_1 : decode b_N_applyWhatIsValid 1 = .ok (.istore_n 1, 1) := by decide +kernel
theorem d_N_applyWhatIsValid_2 : decode b_N_applyWhatIsValid 2 = .ok (.iload_n 1, 1) := by decide +kernel
theorem d_N_applyWhatIsValid_3 : decode b_N_applyWhatIsValid 3 = .ok (.bipush 35, 2) := by decide +kernel
theorem d_N_applyWhatIsValid_5 : decode b_N_applyWhatIsValid 5 = .ok (.if_icmp .ge 73, 3) := by decide +kernel
theorem d_N_applyWhatIsValid_8 : decode b_N_applyWhatIsValid 8 = .ok (.aload_n 0, 1) := by decide +kernel
theorem d_N_applyWhatIsValid_9 : decode b_N_applyWhatIsValid 9 = .ok (.invokevirtual 140, 3) := by decide +kernel
theorem d_N_applyWhatIsValid_12 : decode b_N_applyWhatIsValid 12 = .ok (.istore_n 2, 1) := by decide +kernel
theorem d_N_applyWhatIsValid_13 : decode b_N_applyWhatIsValid 13 = .ok (.iload_n 2, 1) := by decide +kernel
theorem d_N_applyWhatIsValid_14 : decode b_N_applyWhatIsValid 14 = .ok (.iconst (-1), 1) := by decide +kernel
theorem d_N_applyWhatIsValid_15 : decode b_N_applyWhatIsValid 15 = .ok (.if_icmp .ne 5, 3) := by decide +kernel
theorem d_N_applyWhatIsValid_18 : decode b_N_applyWhatIsValid 18 = .ok (.iload_n 1, 1) := by decide +kernel
theorem d_N_applyWhatIsValid_19 : decode b_N_applyWhatIsValid 19 = .ok (.ireturn, 1) := by decide +kernel
theorem d_N_applyWhatIsValid_20 : decode b_N_applyWhatIsValid 20 = .ok (.iload_n 2, 1) := by decide +kernel
theorem d_N_applyWhatIsValid_21 : decode b_N_applyWhatIsValid 21 = .ok (.iconst 5, 1) := by decide +kernel
theorem d_N_applyWhatIsValid_22 : decode b_N_applyWhatIsValid 22 = .ok (.imul, 1) := by decide +kernel
theorem d_N_applyWhatIsValid_23 : decode b_N_applyWhatIsValid 23 = .ok (.aload_n 0, 1) := by decide +kernel
theorem d_N_applyWhatIsValid_24 : decode b_N_applyWhatIsValid 24 = .ok (.getfield 19, 3) := by decide +kernel
theorem d_N_applyWhatIsValid_27 : decode b_N_applyWhatIsValid 27 = .ok (.iload_n 2, 1) := by decide +kernel
theorem d_N_applyWhatIsValid_28 : decode b_N_applyWhatIsValid 28 = .ok (.iaload, 1) := by decide +kernel
theorem d_N_applyWhatIsValid_29 : decode b_N_applyWhatIsValid 29 = .ok (.iadd, 1) := by decide +kernel
theorem d_N_applyWhatIsValid_30 : decode b_N_applyWhatIsValid 30 = .ok (.istore_n 3, 1) := by decide +kernel
theorem d_N_applyWhatIsValid_31 : decode b_N_applyWhatIsValid 31 = .ok (.aload_n 0, 1) := by decide +kernel
theorem d_N_applyWhatIsValid_32 : decode b_N_applyWhatIsValid 32 = .ok (.iconst 3, 1) := by decide +kernel
theorem d_N_applyWhatIsValid_33 : decode b_N_applyWhatIsValid 33 = .ok (.iload_n 3, 1) := by decide +kernel
theorem d_N_applyWhatIsValid_34 : decode b_N_applyWhatIsValid 34 = .ok (.invokestatic 104, 3) := by decide +kernel
theorem d_N_applyWhatIsValid_37 : decode b_N_applyWhatIsValid 37 = .ok (.aload_n 0, 1) := by decide +kernel
theorem d_N_applyWhatIsValid_38 : decode b_N_applyWhatIsValid 38 = .ok (.getfield 32, 3) := by decide +kernel
theorem d_N_applyWhatIsValid_41 : decode b_N_applyWhatIsValid 41 = .ok (.iload_n 3, 1) := by decide +kernel
theorem d_N_applyWhatIsValid_42 : decode b_N_applyWhatIsValid 42 = .ok (.laload, 1) := by decide +kernel
theorem d_N_applyWhatIsValid_43 : decode b_N_applyWhatIsValid 43 = .ok (.invokevirtual 77, 3) := by decide +kernel
theorem d_N_applyWhatIsValid_46 : decode b_N_applyWhatIsValid 46 = .ok (.ifCond .ne 6, 3) := by decide +kernel
theorem d_N_applyWhatIsValid_49 : decode b_N_applyWhatIsValid 49 = .ok (.bipush (-7), 2) := by decide +kernel
theorem d_N_applyWhatIsValid_51 : decode b_N_applyWhatIsValid 51 = .ok (.ireturn, 1) := by decide +kernel
theorem d_N_applyWhatIsValid_52 : decode b_N_applyWhatIsValid 52 = .ok (.aload_n 0, 1) := by decide +kernel
theorem d_N_applyWhatIsValid_53 : decode b_N_applyWhatIsValid 53 = .ok (.iload_n 2, 1) := by decide +kernel
theorem d_N_applyWhatIsValid_54 : decode b_N_applyWhatIsValid 54 = .ok (.aload_n 0, 1) := by decide +kernel
theorem d_N_applyWhatIsValid_55 : decode b_N_applyWhatIsValid 55 = .ok (.getfield 32, 3) := by decide +kernel
theorem d_N_applyWhatIsValid_58 : decode b_N_applyWhatIsValid 58 = .ok (.iload_n 3, 1) := by decide +kernel
theorem d_N_applyWhatIsValid_59 : decode b_N_applyWhatIsValid 59 = .ok (.laload, 1) := by decide +kernel
theorem d_N_applyWhatIsValid_60 : decode b_N_applyWhatIsValid 60 = .ok (.invokevirtual 143, 3) := by decide +kernel
theorem d_N_applyWhatIsValid_63 : decode b_N_applyWhatIsValid 63 = .ok (.aload_n 0, 1) := by decide +kernel
theorem d_N_applyWhatIsValid_64 : decode b_N_applyWhatIsValid 64 = .ok (.getfield 32, 3) := by decide +kernel
theorem d_N_applyWhatIsValid_67 : decode b_N_applyWhatIsValid 67 = .ok (.iload_n 3, 1) := by decide +kernel
theorem d_N_applyWhatIsValid_68 : decode b_N_applyWhatIsValid 68 = .ok (.ldc2_w 44, 3) := by decide +kernel
theorem d_N_applyWhatIsValid_71 : decode b_N_applyWhatIsValid 71 = .ok (.lastore, 1) := by decide +kernel
theorem d_N_applyWhatIsValid_72 : decode b_N_applyWhatIsValid 72 = .ok (.iinc 1 1, 3) := by decide +kernel
theorem d_N_applyWhatIsValid_75 : decode b_N_applyWhatIsValid 75 = .ok (.goto (-73), 3) := by decide +kernel
theorem d_N_applyWhatIsValid_78 : decode b_N_applyWhatIsValid 78 = .ok (.bipush 35, 2) := by decide +kernel
theorem d_N_applyWhatIsValid_80 : decode b_N_applyWhatIsValid 80 = .ok (.ireturn, 1) := by decide +kernel
theorem d_N_leastPayer_0 : decode b_N_leastPayer 0 = .ok (.iconst 0, 1) := by decide +kernel
theorem d_N_leastPayer_1 : decode b_N_leastPayer 1 = .ok (.istore_n 1, 1) := by decide +kernel
theorem d_N_leastPayer_2 : decode b_N_leastPayer 2 = .ok (.iload_n 1, 1) := by decide +kernel
theorem d_N_leastPayer_3 : decode b_N_leastPayer 3 = .ok (.aload_n 0, 1) := by decide +kernel
theorem d_N_leastPayer_4 : decode b_N_leastPayer 4 = .ok (.getfield 38, 3) := by decide +kernel
theorem d_N_leastPayer_7 : decode b_N_leastPayer 7 = .ok (.if_icmp .ge 44, 3) := by decide +kernel
theorem d_N_leastPayer_10 : decode b_N_leastPayer 10 = .ok (.aload_n 0, 1) := by decide +kernel
theorem d_N_leastPayer_11 : decode b_N_leastPayer 11 = .ok (.getfield 19, 3) := by decide +kernel
theorem d_N_leastPayer_14 : decode b_N_leastPayer 14 = .ok (.iload_n 1, 1) := by decide +kernel
theorem d_N_leastPayer_15 : decode b_N_leastPayer 15 = .ok (.iaload, 1) := by decide +kernel
theorem d_N_leastPayer_16 : decode b_N_leastPayer 16 = .ok (.iconst 5, 1) := by decide +kernel
theorem d_N_leastPayer_17 : decode b_N_leastPayer 17 = .ok (.if_icmp .ge 28, 3) := by decide +kernel
theorem d_N_leastPayer_20 : decode b_N_leastPayer 20 = .ok (.aload_n 0, 1) := by decide +kernel
theorem d_N_leastPayer_21 : decode b_N_leastPayer 21 = .ok (.iload_n 1, 1) := by decide +kernel
theorem d_N_leastPayer_22 : decode b_N_leastPayer 22 = .ok (.aload_n 0, 1) := by decide +kernel
theorem d_N_leastPayer_23 : decode b_N_leastPayer 23 = .ok (.getfield 32, 3) := by decide +kernel
theorem d_N_leastPayer_26 : decode b_N_leastPayer 26 = .ok (.iload_n 1, 1) := by decide +kernel
theorem d_N_leastPayer_27 : decode b_N_leastPayer 27 = .ok (.iconst 5, 1) := by decide +kernel
theorem d_N_leastPayer_28 : decode b_N_leastPayer 28 = .ok (.imul, 1) := by decide +kernel
theorem d_N_leastPayer_29 : decode b_N_leastPayer 29 = .ok (.aload_n 0, 1) := by decide +kernel
theorem d_N_leastPayer_30 : decode b_N_leastPayer 30 = .ok (.getfield 19, 3) := by decide +kernel
theorem d_N_leastPayer_33 : decode b_N_leastPayer 33 = .ok (.iload_n 1, 1) := by decide +kernel
theorem d_N_leastPayer_34 : decode b_N_leastPayer 34 = .ok (.iaload, 1) := by decide +kernel
theorem d_N_leastPayer_35 : decode b_N_leastPayer 35 = .ok (.iadd, 1) := by decide +kernel
theorem d_N_leastPayer_36 : decode b_N_leastPayer 36 = .ok (.laload, 1) := by decide +kernel
theorem d_N_leastPayer_37 : decode b_N_leastPayer 37 = .ok (.invokevirtual 147, 3) := by decide +kernel
theorem d_N_leastPayer_40 : decode b_N_leastPayer 40 = .ok (.ifCond .eq 5, 3) := by decide +kernel
theorem d_N_leastPayer_43 : decode b_N_leastPayer 43 = .ok (.iload_n 1, 1) := by decide +kernel
theorem d_N_leastPayer_44 : decode b_N_leastPayer 44 = .ok (.ireturn, 1) := by decide +kernel
theorem d_N_leastPayer_45 : decode b_N_leastPayer 45 = .ok (.iinc 1 1, 3) := by decide +kernel
theorem d_N_leastPayer_48 : decode b_N_leastPayer 48 = .ok (.goto (-46), 3) := by decide +kernel
theorem d_N_leastPayer_51 : decode b_N_leastPayer 51 = .ok (.iconst (-1), 1) := by decide +kernel
theorem d_N_leastPayer_52 : decode b_N_leastPayer 52 = .ok (.ireturn, 1) := by decide +kernel
theorem d_N_isValid_0 : decode b_N_isValid 0 = .ok (.lload_n 2, 1) := by decide +kernel
theorem d_N_isValid_1 : decode b_N_isValid 1 = .ok (.ldc2_w 44, 3) := by decide +kernel
theorem d_N_isValid_4 : decode b_N_isValid 4 = .ok (.lcmp, 1) := by decide +kernel
theorem d_N_isValid_5 : decode b_N_isValid 5 = .ok (.ifCond .eq 18, 3) := by decide +kernel
theorem d_N_isValid_8 : decode b_N_isValid 8 = .ok (.aload_n 0, 1) := by decide +kernel
theorem d_N_isValid_9 : decode b_N_isValid 9 = .ok (.getfield 26, 3) := by decide +kernel
theorem d_N_isValid_12 : decode b_N_isValid 12 = .ok (.iload_n 1, 1) := by decide +kernel
theorem d_N_isValid_13 : decode b_N_isValid 13 = .ok (.laload, 1) := by decide +kernel
theorem d_N_isValid_14 : decode b_N_isValid 14 = .ok (.lload_n 2, 1) := by decide +kernel
theorem d_N_isValid_15 : decode b_N_isValid 15 = .ok (.invokestatic 150, 3) := by decide +kernel
theorem d_N_isValid_18 : decode b_N_isValid 18 = .ok (.i2l, 1) := by decide +kernel
theorem d_N_isValid_19 : decode b_N_isValid 19 = .ok (.lcmp, 1) := by decide +kernel
theorem d_N_isValid_20 : decode b_N_isValid 20 = .ok (.ifCond .ge 5, 3) := by decide +kernel
theorem d_N_isValid_23 : decode b_N_isValid 23 = .ok (.iconst 0, 1) := by decide +kernel
theorem d_N_isValid_24 : decode b_N_isValid 24 = .ok (.ireturn, 1) := by decide +kernel
theorem d_N_isValid_25 : decode b_N_isValid 25 = .ok (.iconst 0, 1) := by decide +kernel
theorem d_N_isValid_26 : decode b_N_isValid 26 = .ok (.istore 4, 2) := by decide +kernel
theorem d_N_isValid_28 : decode b_N_isValid 28 = .ok (.iload 4, 2) := by decide +kernel
theorem d_N_isValid_30 : decode b_N_isValid 30 = .ok (.aload_n 0, 1) := by decide +kernel
theorem d_N_isValid_31 : decode b_N_isValid 31 = .ok (.getfield 38, 3) := by decide +kernel
theorem d_N_isValid_34 : decode b_N_isValid 34 = .ok (.if_icmp .ge 27, 3) := by decide +kernel
theorem d_N_isValid_37 : decode b_N_isValid 37 = .ok (.aload_n 0, 1) := by decide +kernel
theorem d_N_isValid_38 : decode b_N_isValid 38 = .ok (.getfield 19, 3) := by decide +kernel
theorem d_N_isValid_41 : decode b_N_isValid 41 = .ok (.iload 4, 2) := by decide +kernel
theorem d_N_isValid_43 : decode b_N_isValid 43 = .ok (.iaload, 1) := by decide +kernel
theorem d_N_isValid_44 : decode b_N_isValid 44 = .ok (.lload_n 2, 1) := by decide +kernel
theorem d_N_isValid_45 : decode b_N_isValid 45 = .ok (.iload 4, 2) := by decide +kernel
theorem d_N_isValid_47 : decode b_N_isValid 47 = .ok (.invokestatic 154, 3) := by decide +kernel
theorem d_N_isValid_50 : decode b_N_isValid 50 = .ok (.if_icmp .ge 5, 3) := by decide +kernel
theorem d_N_isValid_53 : decode b_N_isValid 53 = .ok (.iconst 0, 1) := by decide +kernel
theorem d_N_isValid_54 : decode b_N_isValid 54 = .ok (.ireturn, 1) := by decide +kernel
theorem d_N_isValid_55 : decode b_N_isValid 55 = .ok (.iinc 4 1, 3) := by decide +kernel
theorem d_N_isValid_58 : decode b_N_isValid 58 = .ok (.goto (-30), 3) := by decide +kernel
theorem d_N_isValid_61 : decode b_N_isValid 61 = .ok (.iconst 1, 1) := by decide +kernel
theorem d_N_isValid_62 : decode b_N_isValid 62 = .ok (.ireturn, 1) := by decide +kernel
theorem d_N_pay_0 : decode b_N_pay 0 = .ok (.aload_n 0, 1) := by decide +kernel
theorem d_N_pay_1 : decode b_N_pay 1 = .ok (.getfield 19, 3) := by decide +kernel
theorem d_N_pay_4 : decode b_N_pay 4 = .ok (.iload_n 1, 1) := by decide +kernel
theorem d_N_pay_5 : decode b_N_pay 5 = .ok (.dup2, 1) := by decide +kernel
theorem d_N_pay_6 : decode b_N_pay 6 = .ok (.iaload, 1) := by decide +kernel
theorem d_N_pay_7 : decode b_N_pay 7 = .ok (.iconst 1, 1) := by decide +kernel
theorem d_N_pay_8 : decode b_N_pay 8 = .ok (.iadd, 1) := by decide +kernel
theorem d_N_pay_9 : decode b_N_pay 9 = .ok (.iastore, 1) := by decide +kernel
theorem d_N_pay_10 : decode b_N_pay 10 = .ok (.aload_n 0, 1) := by decide +kernel
theorem d_N_pay_11 : decode b_N_pay 11 = .ok (.getfield 26, 3) := by decide +kernel
theorem d_N_pay_14 : decode b_N_pay 14 = .ok (.iload_n 1, 1) := by decide +kernel
theorem d_N_pay_15 : decode b_N_pay 15 = .ok (.dup2, 1) := by decide +kernel
theorem d_N_pay_16 : decode b_N_pay 16 = .ok (.laload, 1) := by decide +kernel
theorem d_N_pay_17 : decode b_N_pay 17 = .ok (.lload_n 2, 1) := by decide +kernel
theorem d_N_pay_18 : decode b_N_pay 18 = .ok (.invokestatic 150, 3) := by decide +kernel
theorem d_N_pay_21 : decode b_N_pay 21 = .ok (.i2l, 1) := by decide +kernel
theorem d_N_pay_22 : decode b_N_pay 22 = .ok (.lsub, 1) := by decide +kernel
theorem d_N_pay_23 : decode b_N_pay 23 = .ok (.lastore, 1) := by decide +kernel
theorem d_N_pay_24 : decode b_N_pay 24 = .ok (.aload_n 0, 1) := by decide +kernel
theorem d_N_pay_25 : decode b_N_pay 25 = .ok (.getfield 26, 3) := by decide +kernel
theorem d_N_pay_28 : decode b_N_pay 28 = .ok (.lload_n 2, 1) := by decide +kernel
theorem d_N_pay_29 : decode b_N_pay 29 = .ok (.invokestatic 158, 3) := by decide +kernel
theorem d_N_pay_32 : decode b_N_pay 32 = .ok (.dup2, 1) := by decide +kernel
theorem d_N_pay_33 : decode b_N_pay 33 = .ok (.laload, 1) := by decide +kernel
theorem d_N_pay_34 : decode b_N_pay 34 = .ok (.lload_n 2, 1) := by decide +kernel
theorem d_N_pay_35 : decode b_N_pay 35 = .ok (.invokestatic 150, 3) := by decide +kernel
theorem d_N_pay_38 : decode b_N_pay 38 = .ok (.i2l, 1) := by decide +kernel
theorem d_N_pay_39 : decode b_N_pay 39 = .ok (.ladd, 1) := by decide +kernel
theorem d_N_pay_40 : decode b_N_pay 40 = .ok (.lastore, 1) := by decide +kernel
theorem d_N_pay_41 : decode b_N_pay 41 = .ok (.return_, 1) := by decide +kernel
theorem d_N_freeWhatIsMarked_0 : decode b_N_freeWhatIsMarked 0 = .ok (.aload_n 0, 1) := by decide +kernel
theorem d_N_freeWhatIsMarked_1 : decode b_N_freeWhatIsMarked 1 = .ok (.getfield 15, 3) := by decide +kernel
theorem d_N_freeWhatIsMarked_4 : decode b_N_freeWhatIsMarked 4 = .ok (.sipush 140, 3) := by decide +kernel
theorem d_N_freeWhatIsMarked_7 : decode b_N_freeWhatIsMarked 7 = .ok (.laload, 1) := by decide +kernel
theorem d_N_freeWhatIsMarked_8 : decode b_N_freeWhatIsMarked 8 = .ok (.lstore_n 1, 1) := by decide +kernel
theorem d_N_freeWhatIsMarked_9 : decode b_N_freeWhatIsMarked 9 = .ok (.lload_n 1, 1) := by decide +kernel
theorem d_N_freeWhatIsMarked_10 : decode b_N_freeWhatIsMarked 10 = .ok (.ldc2_w 44, 3) := by decide +kernel
theorem d_N_freeWhatIsMarked_13 : decode b_N_freeWhatIsMarked 13 = .ok (.lcmp, 1) := by decide +kernel
theorem d_N_freeWhatIsMarked_14 : decode b_N_freeWhatIsMarked 14 = .ok (.ifCond .eq 22, 3) := by decide +kernel
theorem d_N_freeWhatIsMarked_17 : decode b_N_freeWhatIsMarked 17 = .ok (.aload_n 0, 1) := by decide +kernel
theorem d_N_freeWhatIsMarked_18 : decode b_N_freeWhatIsMarked 18 = .ok (.sipush 140, 3) := by decide +kernel
theorem d_N_freeWhatIsMarked_21 : decode b_N_freeWhatIsMarked 21 = .ok (.lload_n 1, 1) := by decide +kernel
theorem d_N_freeWhatIsMarked_22 : decode b_N_freeWhatIsMarked 22 = .ok (.invokevirtual 136, 3) := by decide +kernel
theorem d_N_freeWhatIsMarked_25 : decode b_N_freeWhatIsMarked 25 = .ok (.iconst 2, 1) := by decide +kernel
theorem d_N_freeWhatIsMarked_26 : decode b_N_freeWhatIsMarked 26 = .ok (.aload_n 0, 1) := by decide +kernel
theorem d_N_freeWhatIsMarked_27 : decode b_N_freeWhatIsMarked 27 = .ok (.getfield 41, 3) := by decide +kernel
theorem d_N_freeWhatIsMarked_30 : decode b_N_freeWhatIsMarked 30 = .ok (.imul, 1) := by decide +kernel
theorem d_N_freeWhatIsMarked_31 : decode b_N_freeWhatIsMarked 31 = .ok (.iconst 1, 1) := by decide +kernel
theorem d_N_freeWhatIsMarked_32 : decode b_N_freeWhatIsMarked 32 = .ok (.iadd, 1) := by decide +kernel
theorem d_N_freeWhatIsMarked_33 : decode b_N_freeWhatIsMarked 33 = .ok (.if_icmp .ge 4, 3) := by decide +kernel
theorem d_N_freeWhatIsMarked_36 : decode b_N_freeWhatIsMarked 36 = .ok (.return_, 1) := by decide +kernel
theorem d_N_freeWhatIsMarked_37 : decode b_N_freeWhatIsMarked 37 = .ok (.iconst 0, 1) := by decide +kernel
theorem d_N_freeWhatIsMarked_38 : decode b_N_freeWhatIsMarked 38 = .ok (.istore_n 3, 1) := by decide +kernel
theorem d_N_freeWhatIsMarked_39 : decode b_N_freeWhatIsMarked 39 = .ok (.iload_n 3, 1) := by decide +kernel
theorem d_N_freeWhatIsMarked_40 : decode b_N_freeWhatIsMarked 40 = .ok (.aload_n 0, 1) := by decide +kernel
theorem d_N_freeWhatIsMarked_41 : decode b_N_freeWhatIsMarked 41 = .ok (.getfield 38, 3) := by decide +kernel
theorem d_N_freeWhatIsMarked_44 : decode b_N_freeWhatIsMarked 44 = .ok (.if_icmp .ge 68, 3) := by decide +kernel
theorem d_N_freeWhatIsMarked_47 : decode b_N_freeWhatIsMarked 47 = .ok (.lload_n 1, 1) := by decide +kernel
theorem d_N_freeWhatIsMarked_48 : decode b_N_freeWhatIsMarked 48 = .ok (.iload_n 3, 1) := by decide +kernel
theorem d_N_freeWhatIsMarked_49 : decode b_N_freeWhatIsMarked 49 = .ok (.invokestatic 161, 3) := by decide +kernel
theorem d_N_freeWhatIsMarked_52 : decode b_N_freeWhatIsMarked 52 = .ok (.istore 4, 2) := by decide +kernel
theorem d_N_freeWhatIsMarked_54 : decode b_N_freeWhatIsMarked 54 = .ok (.aload_n 0, 1) := by decide +kernel
theorem d_N_freeWhatIsMarked_55 : decode b_N_freeWhatIsMarked 55 = .ok (.getfield 23, 3) := by decide +kernel
theorem d_N_freeWhatIsMarked_58 : decode b_N_freeWhatIsMarked 58 = .ok (.iload_n 3, 1) := by decide +kernel
theorem d_N_freeWhatIsMarked_59 : decode b_N_freeWhatIsMarked 59 = .ok (.iaload, 1) := by decide +kernel
theorem d_N_freeWhatIsMarked_60 : decode b_N_freeWhatIsMarked 60 = .ok (.iconst 1, 1) := by decide +kernel
theorem d_N_freeWhatIsMarked_61 : decode b_N_freeWhatIsMarked 61 = .ok (.iadd, 1) := by decide +kernel
theorem d_N_freeWhatIsMarked_62 : decode b_N_freeWhatIsMarked 62 = .ok (.istore 5, 2) := by decide +kernel
theorem d_N_freeWhatIsMarked_64 : decode b_N_freeWhatIsMarked 64 = .ok (.iload 5, 2) := by decide +kernel
theorem d_N_freeWhatIsMarked_66 : decode b_N_freeWhatIsMarked 66 = .ok (.iload 4, 2) := by decide +kernel
theorem d_N_freeWhatIsMarked_68 : decode b_N_freeWhatIsMarked 68 = .ok (.if_icmp .gt 21, 3) := by decide +kernel
theorem d_N_freeWhatIsMarked_71 : decode b_N_freeWhatIsMarked 71 = .ok (.aload_n 0, 1) := by decide +kernel
theorem d_N_freeWhatIsMarked_72 : decode b_N_freeWhatIsMarked 72 = .ok (.iload_n 3, 1) := by decide +kernel
theorem d_N_freeWhatIsMarked_73 : decode b_N_freeWhatIsMarked 73 = .ok (.iconst 5, 1) := by decide +kernel
theorem d_N_freeWhatIsMarked_74 : decode b_N_freeWhatIsMarked 74 = .ok (.imul, 1) := by decide +kernel
theorem d_N_freeWhatIsMarked_75 : decode b_N_freeWhatIsMarked 75 = .ok (.iload 5, 2) := by decide +kernel
theorem d_N_freeWhatIsMarked_77 : decode b_N_freeWhatIsMarked 77 = .ok (.iadd, 1) := by decide +kernel
theorem d_N_freeWhatIsMarked_78 : decode b_N_freeWhatIsMarked 78 = .ok (.iconst 1, 1) := by decide +kernel
theorem d_N_freeWhatIsMarked_79 : decode b_N_freeWhatIsMarked 79 = .ok (.isub, 1) := by decide +kernel
theorem d_N_freeWhatIsMarked_80 : decode b_N_freeWhatIsMarked 80 = .ok (.invokevirtual 164, 3) := by decide +kernel
theorem d_N_freeWhatIsMarked_83 : decode b_N_freeWhatIsMarked 83 = .ok (.iinc 5 1, 3) := by decide +kernel
theorem d_N_freeWhatIsMarked_86 : decode b_N_freeWhatIsMarked 86 = .ok (.goto (-22), 3) := by decide +kernel
theorem d_N_freeWhatIsMarked_89 : decode b_N_freeWhatIsMarked 89 = .ok (.aload_n 0, 1) := by decide +kernel
theorem d_N_freeWhatIsMarked_90 : decode b_N_freeWhatIsMarked 90 = .ok (.getfield 23, 3) := by decide +kernel
theorem d_N_freeWhatIsMarked_93 : decode b_N_freeWhatIsMarked 93 = .ok (.iload_n 3, 1) := by decide +kernel
theorem d_N_freeWhatIsMarked_94 : decode b_N_freeWhatIsMarked 94 = .ok (.aload_n 0, 1) := by decide +kernel
theorem d_N_freeWhatIsMarked_95 : decode b_N_freeWhatIsMarked 95 = .ok (.getfield 23, 3) := by decide +kernel
theorem d_N_freeWhatIsMarked_98 : decode b_N_freeWhatIsMarked 98 = .ok (.iload_n 3, 1) := by decide +kernel
theorem d_N_freeWhatIsMarked_99 : decode b_N_freeWhatIsMarked 99 = .ok (.iaload, 1) := by decide +kernel
theorem d_N_freeWhatIsMarked_100 : decode b_N_freeWhatIsMarked 100 = .ok (.iload 4, 2) := by decide +kernel
theorem d_N_freeWhatIsMarked_102 : decode b_N_freeWhatIsMarked 102 = .ok (.invokestatic 168, 3) := by decide +kernel
theorem d_N_freeWhatIsMarked_105 : decode b_N_freeWhatIsMarked 105 = .ok (.iastore, 1) := by decide +kernel
theorem d_N_freeWhatIsMarked_106 : decode b_N_freeWhatIsMarked 106 = .ok (.iinc 3 1, 3) := by decide +kernel
theorem d_N_freeWhatIsMarked_109 : decode b_N_freeWhatIsMarked 109 = .ok (.goto (-70), 3) := by decide +kernel
theorem d_N_freeWhatIsMarked_112 : decode b_N_freeWhatIsMarked 112 = .ok (.return_, 1) := by decide +kernel
theorem d_N_forget_0 : decode b_N_forget 0 = .ok (.iconst 0, 1) := by decide +kernel
theorem d_N_forget_1 : decode b_N_forget 1 = .ok (.istore_n 2, 1) := by decide +kernel
theorem d_N_forget_2 : decode b_N_forget 2 = .ok (.iload_n 2, 1) := by decide +kernel
theorem d_N_forget_3 : decode b_N_forget 3 = .ok (.iconst 2, 1) := by decide +kernel
theorem d_N_forget_4 : decode b_N_forget 4 = .ok (.if_icmp .gt 22, 3) := by decide +kernel
theorem d_N_forget_7 : decode b_N_forget 7 = .ok (.aload_n 0, 1) := by decide +kernel
theorem d_N_forget_8 : decode b_N_forget 8 = .ok (.getfield 15, 3) := by decide +kernel
theorem d_N_forget_11 : decode b_N_forget 11 = .ok (.iload_n 2, 1) := by decide +kernel
theorem d_N_forget_12 : decode b_N_forget 12 = .ok (.iload_n 1, 1) := by decide +kernel
theorem d_N_forget_13 : decode b_N_forget 13 = .ok (.invokestatic 104, 3) := by decide +kernel
theorem d_N_forget_16 : decode b_N_forget 16 = .ok (.ldc2_w 44, 3) := by decide +kernel
theorem d_N_forget_19 : decode b_N_forget 19 = .ok (.lastore, 1) := by decide +kernel
theorem d_N_forget_20 : decode b_N_forget 20 = .ok (.iinc 2 1, 3) := by decide +kernel
theorem d_N_forget_23 : decode b_N_forget 23 = .ok (.goto (-21), 3) := by decide +kernel
theorem d_N_forget_26 : decode b_N_forget 26 = .ok (.iconst 1, 1) := by decide +kernel
theorem d_N_forget_27 : decode b_N_forget 27 = .ok (.istore_n 2, 1) := by decide +kernel
theorem d_N_forget_28 : decode b_N_forget 28 = .ok (.iload_n 2, 1) := by decide +kernel
theorem d_N_forget_29 : decode b_N_forget 29 = .ok (.iconst 3, 1) := by decide +kernel
theorem d_N_forget_30 : decode b_N_forget 30 = .ok (.if_icmp .gt 43, 3) := by decide +kernel
theorem d_N_forget_33 : decode b_N_forget 33 = .ok (.iconst 0, 1) := by decide +kernel
theorem d_N_forget_34 : decode b_N_forget 34 = .ok (.istore_n 3, 1) := by decide +kernel
theorem d_N_forget_35 : decode b_N_forget 35 = .ok (.iload_n 3, 1) := by decide +kernel
theorem d_N_forget_36 : decode b_N_forget 36 = .ok (.aload_n 0, 1) := by decide +kernel
theorem d_N_forget_37 : decode b_N_forget 37 = .ok (.getfield 38, 3) := by decide +kernel
theorem d_N_forget_40 : decode b_N_forget 40 = .ok (.if_icmp .ge 27, 3) := by decide +kernel
theorem d_N_forget_43 : decode b_N_forget 43 = .ok (.aload_n 0, 1) := by decide +kernel
theorem d_N_forget_44 : decode b_N_forget 44 = .ok (.getfield 29, 3) := by decide +kernel
theorem d_N_forget_47 : decode b_N_forget 47 = .ok (.iload_n 2, 1) := by decide +kernel
theorem d_N_forget_48 : decode b_N_forget 48 = .ok (.iload_n 1, 1) := by decide +kernel
theorem d_N_forget_49 : decode b_N_forget 49 = .ok (.invokestatic 104, 3) := by decide +kernel
theorem d_N_forget_52 : decode b_N_forget 52 = .ok (.bipush 7, 2) := by decide +kernel
theorem d_N_forget_54 : decode b_N_forget 54 = .ok (.imul, 1) := by decide +kernel
theorem d_N_forget_55 : decode b_N_forget 55 = .ok (.iload_n 3, 1) := by decide +kernel
theorem d_N_forget_56 : decode b_N_forget 56 = .ok (.iadd, 1) := by decide +kernel
theorem d_N_forget_57 : decode b_N_forget 57 = .ok (.ldc2_w 44, 3) := by decide +kernel
theorem d_N_forget_60 : decode b_N_forget 60 = .ok (.lastore, 1) := by decide +kernel
theorem d_N_forget_61 : decode b_N_forget 61 = .ok (.iinc 3 1, 3) := by decide +kernel
theorem d_N_forget_64 : decode b_N_forget 64 = .ok (.goto (-29), 3) := by decide +kernel
theorem d_N_forget_67 : decode b_N_forget 67 = .ok (.iinc 2 1, 3) := by decide +kernel
theorem d_N_forget_70 : decode b_N_forget 70 = .ok (.goto (-42), 3) := by decide +kernel
theorem d_N_forget_73 : decode b_N_forget 73 = .ok (.return_, 1) := by decide +kernel
theorem d_N_spendable_0 : decode b_N_spendable 0 = .ok (.aload_n 0, 1) := by decide +kernel
theorem d_N_spendable_1 : decode b_N_spendable 1 = .ok (.getfield 26, 3) := by decide +kernel
theorem d_N_spendable_4 : decode b_N_spendable 4 = .ok (.aload_n 0, 1) := by decide +kernel
theorem d_N_spendable_5 : decode b_N_spendable 5 = .ok (.getfield 35, 3) := by decide +kernel
theorem d_N_spendable_8 : decode b_N_spendable 8 = .ok (.laload, 1) := by decide +kernel
theorem d_N_spendable_9 : decode b_N_spendable 9 = .ok (.lstore_n 1, 1) := by decide +kernel
theorem d_N_spendable_10 : decode b_N_spendable 10 = .ok (.aload_n 0, 1) := by decide +kernel
theorem d_N_spendable_11 : decode b_N_spendable 11 = .ok (.getfield 19, 3) := by decide +kernel
theorem d_N_spendable_14 : decode b_N_spendable 14 = .ok (.aload_n 0, 1) := by decide +kernel
theorem d_N_spendable_15 : decode b_N_spendable 15 = .ok (.getfield 35, 3) := by decide +kernel
theorem d_N_spendable_18 : decode b_N_spendable 18 = .ok (.iaload, 1) := by decide +kernel
theorem d_N_spendable_19 : decode b_N_spendable 19 = .ok (.iconst 1, 1) := by decide +kernel
theorem d_N_spendable_20 : decode b_N_spendable 20 = .ok (.iadd, 1) := by decide +kernel
theorem d_N_spendable_21 : decode b_N_spendable 21 = .ok (.istore_n 3, 1) := by decide +kernel
theorem d_N_spendable_22 : decode b_N_spendable 22 = .ok (.iload_n 3, 1) := by decide +kernel
theorem d_N_spendable_23 : decode b_N_spendable 23 = .ok (.aload_n 0, 1) := by decide +kernel
theorem d_N_spendable_24 : decode b_N_spendable 24 = .ok (.getfield 55, 3) := by decide +kernel
theorem d_N_spendable_27 : decode b_N_spendable 27 = .ok (.if_icmp .gt 30, 3) := by decide +kernel
theorem d_N_spendable_30 : decode b_N_spendable 30 = .ok (.lload_n 1, 1) := by decide +kernel
theorem d_N_spendable_31 : decode b_N_spendable 31 = .ok (.aload_n 0, 1) := by decide +kernel
theorem d_N_spendable_32 : decode b_N_spendable 32 = .ok (.getfield 15, 3) := by decide +kernel
theorem d_N_spendable_35 : decode b_N_spendable 35 = .ok (.iconst 0, 1) := by decide +kernel
theorem d_N_spendable_36 : decode b_N_spendable 36 = .ok (.aload_n 0, 1) := by decide +kernel
theorem d_N_spendable_37 : decode b_N_spendable 37 = .ok (.getfield 35, 3) := by decide +kernel
theorem d_N_spendable_40 : decode b_N_spendable 40 = .ok (.iload_n 3, 1) := by decide +kernel
theorem d_N_spendable_41 : decode b_N_spendable 41 = .ok (.invokestatic 62, 3) := by decide +kernel
theorem d_N_spendable_44 : decode b_N_spendable 44 = .ok (.laload, 1) := by decide +kernel
theorem d_N_spendable_45 : decode b_N_spendable 45 = .ok (.invokestatic 150, 3) := by decide +kernel
theorem d_N_spendable_48 : decode b_N_spendable 48 = .ok (.i2l, 1) := by decide +kernel
theorem d_N_spendable_49 : decode b_N_spendable 49 = .ok (.lsub, 1) := by decide +kernel
theorem d_N_spendable_50 : decode b_N_spendable 50 = .ok (.lstore_n 1, 1) := by decide +kernel
theorem d_N_spendable_51 : decode b_N_spendable 51 = .ok (.iinc 3 1, 3) := by decide +kernel
theorem d_N_spendable_54 : decode b_N_spendable 54 = .ok (.goto (-32), 3) := by decide +kernel
theorem d_N_spendable_57 : decode b_N_spendable 57 = .ok (.lload_n 1, 1) := by decide +kernel
theorem d_N_spendable_58 : decode b_N_spendable 58 = .ok (.lreturn, 1) := by decide +kernel
theorem d_N_needs_0 : decode b_N_needs 0 = .ok (.lconst 0, 1) := by decide +kernel
theorem d_N_needs_1 : decode b_N_needs 1 = .ok (.lstore_n 1, 1) := by decide +kernel
theorem d_N_needs_2 : decode b_N_needs 2 = .ok (.iconst 0, 1) := by decide +kernel
theorem d_N_needs_3 : decode b_N_needs 3 = .ok (.istore_n 3, 1) := by decide +kernel
theorem d_N_needs_4 : decode b_N_needs 4 = .ok (.iload_n 3, 1) := by decide +kernel
theorem d_N_needs_5 : decode b_N_needs 5 = .ok (.aload_n 0, 1) := by decide +kernel
theorem d_N_needs_6 : decode b_N_needs 6 = .ok (.getfield 38, 3) := by decide +kernel
theorem d_N_needs_9 : decode b_N_needs 9 = .ok (.if_icmp .ge 22, 3) := by decide +kernel
theorem d_N_needs_12 : decode b_N_needs 12 = .ok (.lload_n 1, 1) := by decide +kernel
theorem d_N_needs_13 : decode b_N_needs 13 = .ok (.aload_n 0, 1) := by decide +kernel
theorem d_N_needs_14 : decode b_N_needs 14 = .ok (.iload_n 3, 1) := by decide +kernel
theorem d_N_needs_15 : decode b_N_needs 15 = .ok (.invokevirtual 173, 3) := by decide +kernel
theorem d_N_needs_18 : decode b_N_needs 18 = .ok (.i2l, 1) := by decide +kernel
theorem d_N_needs_19 : decode b_N_needs 19 = .ok (.iconst 3, 1) := by decide +kernel
theorem d_N_needs_20 : decode b_N_needs 20 = .ok (.iload_n 3, 1) := by decide +kernel
theorem d_N_needs_21 : decode b_N_needs 21 = .ok (.imul, 1) := by decide +kernel
theorem d_N_needs_22 : decode b_N_needs 22 = .ok (.lshl, 1) := by decide +kernel
theorem d_N_needs_23 : decode b_N_needs 23 = .ok (.lor, 1) := by decide +kernel
theorem d_N_needs_24 : decode b_N_needs 24 = .ok (.lstore_n 1, 1) := by decide +kernel
theorem d_N_needs_25 : decode b_N_needs 25 = .ok (.iinc 3 1, 3) := by decide +kernel
theorem d_N_needs_28 : decode b_N_needs 28 = .ok (.goto (-24), 3) := by decide +kernel
theorem d_N_needs_31 : decode b_N_needs 31 = .ok (.lload_n 1, 1) := by decide +kernel
theorem d_N_needs_32 : decode b_N_needs 32 = .ok (.lreturn, 1) := by decide +kernel
theorem d_N_lastPaymentBy_0 : decode b_N_lastPaymentBy 0 = .ok (.aload_n 0, 1) := by decide +kernel
theorem d_N_lastPaymentBy_1 : decode b_N_lastPaymentBy 1 = .ok (.getfield 19, 3) := by decide +kernel
theorem d_N_lastPaymentBy_4 : decode b_N_lastPaymentBy 4 = .ok (.iload_n 1, 1) := by decide +kernel
theorem d_N_lastPaymentBy_5 : decode b_N_lastPaymentBy 5 = .ok (.iaload, 1) := by decide +kernel
theorem d_N_lastPaymentBy_6 : decode b_N_lastPaymentBy 6 = .ok (.istore_n 2, 1) := by decide +kernel
theorem d_N_lastPaymentBy_7 : decode b_N_lastPaymentBy 7 = .ok (.iload_n 2, 1) := by decide +kernel
theorem d_N_lastPaymentBy_8 : decode b_N_lastPaymentBy 8 = .ok (.ifCond .le 32, 3) := by decide +kernel
theorem d_N_lastPaymentBy_11 : decode b_N_lastPaymentBy 11 = .ok (.aload_n 0, 1) := by decide +kernel
theorem d_N_lastPaymentBy_12 : decode b_N_lastPaymentBy 12 = .ok (.getfield 15, 3) := by decide +kernel
theorem d_N_lastPaymentBy_15 : decode b_N_lastPaymentBy 15 = .ok (.iconst 3, 1) := by decide +kernel
theorem d_N_lastPaymentBy_16 : decode b_N_lastPaymentBy 16 = .ok (.iload_n 1, 1) := by decide +kernel
theorem d_N_lastPaymentBy_17 : decode b_N_lastPaymentBy 17 = .ok (.iload_n 2, 1) := by decide +kernel
theorem d_N_lastPaymentBy_18 : decode b_N_lastPaymentBy 18 = .ok (.invokestatic 62, 3) := by decide +kernel
theorem d_N_lastPaymentBy_21 : decode b_N_lastPaymentBy 21 = .ok (.laload, 1) := by decide +kernel
theorem d_N_lastPaymentBy_22 : decode b_N_lastPaymentBy 22 = .ok (.invokestatic 158, 3) := by decide +kernel
theorem d_N_lastPaymentBy_25 : decode b_N_lastPaymentBy 25 = .ok (.aload_n 0, 1) := by decide +kernel
theorem d_N_lastPaymentBy_26 : decode b_N_lastPaymentBy 26 = .ok (.getfield 35, 3) := by decide +kernel
theorem d_N_lastPaymentBy_29 : decode b_N_lastPaymentBy 29 = .ok (.if_icmp .ne 5, 3) := by decide +kernel
theorem d_N_lastPaymentBy_32 : decode b_N_lastPaymentBy 32 = .ok (.iload_n 2, 1) := by decide +kernel
theorem d_N_lastPaymentBy_33 : decode b_N_lastPaymentBy 33 = .ok (.ireturn, 1) := by decide +kernel
theorem d_N_lastPaymentBy_34 : decode b_N_lastPaymentBy 34 = .ok (.iinc 2 (-1), 3) := by decide +kernel
theorem d_N_lastPaymentBy_37 : decode b_N_lastPaymentBy 37 = .ok (.goto (-30), 3) := by decide +kernel
theorem d_N_lastPaymentBy_40 : decode b_N_lastPaymentBy 40 = .ok (.iconst 0, 1) := by decide +kernel
theorem d_N_lastPaymentBy_41 : decode b_N_lastPaymentBy 41 = .ok (.ireturn, 1) := by decide +kernel
theorem d_N_write_0 : decode b_N_write 0 = .ok (.aload_n 0, 1) := by decide +kernel
theorem d_N_write_1 : decode b_N_write 1 = .ok (.getfield 52, 3) := by decide +kernel
theorem d_N_write_4 : decode b_N_write 4 = .ok (.iconst 1, 1) := by decide +kernel
theorem d_N_write_5 : decode b_N_write 5 = .ok (.if_icmp .ne 9, 3) := by decide +kernel
theorem d_N_write_8 : decode b_N_write 8 = .ok (.aload_n 0, 1) := by decide +kernel
theorem d_N_write_9 : decode b_N_write 9 = .ok (.invokevirtual 176, 3) := by decide +kernel
theorem d_N_write_12 : decode b_N_write 12 = .ok (.iconst 0, 1) := by decide +kernel
theorem d_N_write_13 : decode b_N_write 13 = .ok (.ireturn, 1) := by decide +kernel
theorem d_N_write_14 : decode b_N_write 14 = .ok (.aload_n 0, 1) := by decide +kernel
theorem d_N_write_15 : decode b_N_write 15 = .ok (.iconst 0, 1) := by decide +kernel
theorem d_N_write_16 : decode b_N_write 16 = .ok (.aload_n 0, 1) := by decide +kernel
theorem d_N_write_17 : decode b_N_write 17 = .ok (.getfield 52, 3) := by decide +kernel
theorem d_N_write_20 : decode b_N_write 20 = .ok (.iconst 1, 1) := by decide +kernel
theorem d_N_write_21 : decode b_N_write 21 = .ok (.isub, 1) := by decide +kernel
theorem d_N_write_22 : decode b_N_write 22 = .ok (.invokestatic 168, 3) := by decide +kernel
theorem d_N_write_25 : decode b_N_write 25 = .ok (.putfield 52, 3) := by decide +kernel
theorem d_N_write_28 : decode b_N_write 28 = .ok (.aload_n 0, 1) := by decide +kernel
theorem d_N_write_29 : decode b_N_write 29 = .ok (.getfield 15, 3) := by decide +kernel
theorem d_N_write_32 : decode b_N_write 32 = .ok (.iload_n 1, 1) := by decide +kernel
theorem d_N_write_33 : decode b_N_write 33 = .ok (.lload_n 2, 1) := by decide +kernel
theorem d_N_write_34 : decode b_N_write 34 = .ok (.lastore, 1) := by decide +kernel
theorem d_N_write_35 : decode b_N_write 35 = .ok (.iconst 1, 1) := by decide +kernel
theorem d_N_write_36 : decode b_N_write 36 = .ok (.ireturn, 1) := by decide +kernel
theorem d_JA_fill_0 : decode b_JA_fill 0 = .ok (.iconst 0, 1) := by decide +kernel
theorem d_JA_fill_1 : decode b_JA_fill 1 = .ok (.istore_n 3, 1) := by decide +kernel
theorem d_JA_fill_2 : decode b_JA_fill 2 = .ok (.aload_n 0, 1) := by decide +kernel
theorem d_JA_fill_3 : decode b_JA_fill 3 = .ok (.arraylength, 1) := by decide +kernel
theorem d_JA_fill_4 : decode b_JA_fill 4 = .ok (.istore 4, 2) := by decide +kernel
theorem d_JA_fill_6 : decode b_JA_fill 6 = .ok (.iload_n 3, 1) := by decide +kernel
theorem d_JA_fill_7 : decode b_JA_fill 7 = .ok (.iload 4, 2) := by decide +kernel
theorem d_JA_fill_9 : decode b_JA_fill 9 = .ok (.if_icmp .ge 13, 3) := by decide +kernel
theorem d_JA_fill_12 : decode b_JA_fill 12 = .ok (.aload_n 0, 1) := by decide +kernel
theorem d_JA_fill_13 : decode b_JA_fill 13 = .ok (.iload_n 3, 1) := by decide +kernel
theorem d_JA_fill_14 : decode b_JA_fill 14 = .ok (.lload_n 1, 1) := by decide +kernel
theorem d_JA_fill_15 : decode b_JA_fill 15 = .ok (.lastore, 1) := by decide +kernel
theorem d_JA_fill_16 : decode b_JA_fill 16 = .ok (.iinc 3 1, 3) := by decide +kernel
theorem d_JA_fill_19 : decode b_JA_fill 19 = .ok (.goto (-13), 3) := by decide +kernel
theorem d_JA_fill_22 : decode b_JA_fill 22 = .ok (.return_, 1) := by decide +kernel
theorem d_JI_bitCount_0 : decode b_JI_bitCount 0 = .ok (.iload_n 0, 1) := by decide +kernel
theorem d_JI_bitCount_1 : decode b_JI_bitCount 1 = .ok (.iload_n 0, 1) := by decide +kernel
theorem d_JI_bitCount_2 : decode b_JI_bitCount 2 = .ok (.iconst 1, 1) := by decide +kernel
theorem d_JI_bitCount_3 : decode b_JI_bitCount 3 = .ok (.iushr, 1) := by decide +kernel
theorem d_JI_bitCount_4 : decode b_JI_bitCount 4 = .ok (.ldc_w 265, 3) := by decide +kernel
theorem d_JI_bitCount_7 : decode b_JI_bitCount 7 = .ok (.iand, 1) := by decide +kernel
theorem d_JI_bitCount_8 : decode b_JI_bitCount 8 = .ok (.isub, 1) := by decide +kernel
theorem d_JI_bitCount_9 : decode b_JI_bitCount 9 = .ok (.istore_n 0, 1) := by decide +kernel
theorem d_JI_bitCount_10 : decode b_JI_bitCount 10 = .ok (.iload_n 0, 1) := by decide +kernel
theorem d_JI_bitCount_11 : decode b_JI_bitCount 11 = .ok (.ldc_w 266, 3) := by decide +kernel
theorem d_JI_bitCount_14 : decode b_JI_bitCount 14 = .ok (.iand, 1) := by decide +kernel
theorem d_JI_bitCount_15 : decode b_JI_bitCount 15 = .ok (.iload_n 0, 1) := by decide +kernel
theorem d_JI_bitCount_16 : decode b_JI_bitCount 16 = .ok (.iconst 2, 1) := by decide +kernel
theorem d_JI_bitCount_17 : decode b_JI_bitCount 17 = .ok (.iushr, 1) := by decide +kernel
theorem d_JI_bitCount_18 : decode b_JI_bitCount 18 = .ok (.ldc_w 266, 3) := by decide +kernel
theorem d_JI_bitCount_21 : decode b_JI_bitCount 21 = .ok (.iand, 1) := by decide +kernel
theorem d_JI_bitCount_22 : decode b_JI_bitCount 22 = .ok (.iadd, 1) := by decide +kernel
theorem d_JI_bitCount_23 : decode b_JI_bitCount 23 = .ok (.istore_n 0, 1) := by decide +kernel
theorem d_JI_bitCount_24 : decode b_JI_bitCount 24 = .ok (.iload_n 0, 1) := by decide +kernel
theorem d_JI_bitCount_25 : decode b_JI_bitCount 25 = .ok (.iload_n 0, 1) := by decide +kernel
theorem d_JI_bitCount_26 : decode b_JI_bitCount 26 = .ok (.iconst 4, 1) := by decide +kernel
theorem d_JI_bitCount_27 : decode b_JI_bitCount 27 = .ok (.iushr, 1) := by decide +kernel
theorem d_JI_bitCount_28 : decode b_JI_bitCount 28 = .ok (.iadd, 1) := by decide +kernel
theorem d_JI_bitCount_29 : decode b_JI_bitCount 29 = .ok (.ldc_w 267, 3) := by decide +kernel
theorem d_JI_bitCount_32 : decode b_JI_bitCount 32 = .ok (.iand, 1) := by decide +kernel
theorem d_JI_bitCount_33 : decode b_JI_bitCount 33 = .ok (.istore_n 0, 1) := by decide +kernel
theorem d_JI_bitCount_34 : decode b_JI_bitCount 34 = .ok (.iload_n 0, 1) := by decide +kernel
theorem d_JI_bitCount_35 : decode b_JI_bitCount 35 = .ok (.iload_n 0, 1) := by decide +kernel
theorem d_JI_bitCount_36 : decode b_JI_bitCount 36 = .ok (.bipush 8, 2) := by decide +kernel
theorem d_JI_bitCount_38 : decode b_JI_bitCount 38 = .ok (.iushr, 1) := by decide +kernel
theorem d_JI_bitCount_39 : decode b_JI_bitCount 39 = .ok (.iadd, 1) := by decide +kernel
theorem d_JI_bitCount_40 : decode b_JI_bitCount 40 = .ok (.istore_n 0, 1) := by decide +kernel
theorem d_JI_bitCount_41 : decode b_JI_bitCount 41 = .ok (.iload_n 0, 1) := by decide +kernel
theorem d_JI_bitCount_42 : decode b_JI_bitCount 42 = .ok (.iload_n 0, 1) := by decide +kernel
theorem d_JI_bitCount_43 : decode b_JI_bitCount 43 = .ok (.bipush 16, 2) := by decide +kernel
theorem d_JI_bitCount_45 : decode b_JI_bitCount 45 = .ok (.iushr, 1) := by decide +kernel
theorem d_JI_bitCount_46 : decode b_JI_bitCount 46 = .ok (.iadd, 1) := by decide +kernel
theorem d_JI_bitCount_47 : decode b_JI_bitCount 47 = .ok (.istore_n 0, 1) := by decide +kernel
theorem d_JI_bitCount_48 : decode b_JI_bitCount 48 = .ok (.iload_n 0, 1) := by decide +kernel
theorem d_JI_bitCount_49 : decode b_JI_bitCount 49 = .ok (.bipush 63, 2) := by decide +kernel
theorem d_JI_bitCount_51 : decode b_JI_bitCount 51 = .ok (.iand, 1) := by decide +kernel
theorem d_JI_bitCount_52 : decode b_JI_bitCount 52 = .ok (.ireturn, 1) := by decide +kernel
end
section
/-! The judgement Gj: the machine at a frame, for every heap that holds the world w and for all locals that hold lo. Br: the world of a method that only reads; Bw: of one that writes. -/
def Gj {ω : Type} (p : Program) (l : Launch) (e : Env) (R : Room) (s : State) (m : MethodId) (args : Array Value) (below : List Frame) (meth : Method) (c : Code) (nL : Nat) (B : ω → Heap → List Loc → Prop) (cells slots : Nat) (Q : State → Prop) (pc : Nat) (lo : List (Nat × Value)) (st : List Value) (w : ω) : Prop :=
  ∀ (H : Heap) (locs : List Loc) (ls : Array Slot), B w H locs → lv_has ls nL lo → W p l e R s m args below meth c H locs cells slots Q (F0 m pc ls st)
def Br (D : va_G) (cl : List vw_C) (H0 : Heap) : va_W → Heap → List Loc → Prop := fun ws H locs => H = H0 ∧ locs = [] ∧ va_P D cl ws H
def Bw (D : va_G) (cl : List vw_C) (A : Nat → Prop) (H0 : Heap) : va_W → Heap → List Loc → Prop := fun ws H locs => va_P D cl ws H ∧ va_D A ws ∧ va_S A H0 H locs
theorem gj_rP {D : va_G} {cl : List vw_C} {H0 : Heap} {ws : va_W} : ∀ H locs, Br D cl H0 ws H locs → va_P D cl ws H := fun _ _ h => h.2.2
theorem gj_wP {D : va_G} {cl : List vw_C} {A : Nat → Prop} {H0 : Heap} {ws : va_W} : ∀ H locs, Bw D cl A H0 ws H locs → va_P D cl ws H := fun _ _ h => h.1
theorem gj_lk {lo : List (Nat × Value)} {i : Nat} {v : Value} (h : lo.lookup i = some v) : (i, v) ∈ lo := by
  induction lo with
  | nil => cases h
  | cons q lo ih =>
    obtain ⟨j, u⟩ := q
    simp only [List.lookup] at h
    split at h
    · rename_i he
      have he : i = j := by simpa using he
      subst he
      cases h
      exact List.mem_cons_self
    · exact List.mem_cons_of_mem _ (ih h)
/-- downward: a counted loop -/
theorem gj_for {P : Nat → Prop} (n : Nat) (h : ∀ i, i ≤ n → (i < n → P (i + 1)) → P i) : ∀ i, i ≤ n → P i := by
  have key : ∀ k i, i ≤ n → n - i = k → P i := by
    intro k
    induction k with
    | zero => intro i hi hk; exact h i hi (fun hlt => by omega)
    | succ k ih => intro i hi hk; exact h i hi (fun hlt => ih (i + 1) (by omega) (by omega))
  intro i hi
  exact key (n - i) i hi rfl
/-- the same for a frame: locals and world by the count -/
theorem gj_forG {G : Nat → List (Nat × Value) → List Value → va_W → Prop} (n pc : Nat) (lo : Nat → List (Nat × Value)) (w : Nat → va_W) (h : ∀ i, i ≤ n → (i < n → G pc (lo (i + 1)) [] (w (i + 1))) → G pc (lo i) [] (w i)) (i : Nat) (hi : i ≤ n) : G pc (lo i) [] (w i) := gj_for (P := fun i => G pc (lo i) [] (w i)) n h i hi
theorem gj_forH {G : Nat → List (Nat × Value) → List Value → va_W → Prop} (Hy : Nat → Prop) (n pc : Nat) (lo : Nat → List (Nat × Value)) (w : Nat → va_W) (h : ∀ i, i ≤ n → (i < n → Hy (i + 1) → G pc (lo (i + 1)) [] (w (i + 1))) → Hy i → G pc (lo i) [] (w i)) (i : Nat) (hi : i ≤ n) (hh : Hy i) : G pc (lo i) [] (w i) := gj_for (P := fun i => Hy i → G pc (lo i) [] (w i)) n h i hi hh
/-- a loop over states of any type -/
theorem gj_forS {σ : Type} {G : Nat → List (Nat × Value) → List Value → va_W → Prop} (Hy : Nat → σ → Prop) (n pc : Nat) (lo : Nat → σ → List (Nat × Value)) (w : Nat → σ → va_W) (h : ∀ i, i ≤ n → (i < n → ∀ x, Hy (i + 1) x → G pc (lo (i + 1) x) [] (w (i + 1) x)) → ∀ x, Hy i x → G pc (lo i x) [] (w i x)) (i : Nat) (hi : i ≤ n) (x : σ) (hh : Hy i x) : G pc (lo i x) [] (w i x) := gj_for (P := fun i => ∀ x, Hy i x → G pc (lo i x) [] (w i x)) n h i hi x hh
/-- a loop by a measure -/
theorem gj_meas {σ : Type} {P : σ → Prop} (μ : σ → Nat) (h : ∀ x, (∀ y, μ y < μ x → P y) → P x) : ∀ x, P x := by
  have key : ∀ k x, μ x ≤ k → P x := by
    intro k
    induction k with
    | zero => intro x hx; exact h x (fun y hy => by omega)
    | succ k ih => intro x hx; exact h x (fun y hy => ih y (by omega))
  intro x
  exact key (μ x) x (Nat.le_refl _)
def bI (b : Bool) : Int32 := if b then 1 else 0
theorem bI_n (b : Bool) : narrow .boolean (.int (bI b)) = .int (bI b) := by cases b <;> rfl
theorem bI_0 {b : Bool} (h : bI b = 0) : b = false := by cases b; rfl; exact absurd h (by decide)
theorem bI_1 {b : Bool} (h : ¬ bI b = 0) : b = true := by cases b; exact absurd rfl h; rfl
theorem gj_upd {f : Nat → Nat} {k v : Nat} : upd (fun j => nI (f j)) k (nI v) = fun j => nI (va_up f k v j) := by
  funext j
  by_cases h : j = k <;> simp [upd, va_up, h]
theorem gj_dec {n : Nat} (h : 1 ≤ n) : nI n + Int32.ofInt (-1) = nI (n - 1) := by
  obtain ⟨k, rfl⟩ : ∃ k, n = k + 1 := ⟨n - 1, by omega⟩
  rw [Nat.add_sub_cancel]
  exact pk_m1 k
theorem gj_i31 {n : Nat} (h : n < 2147483648) : n < 2 ^ 31 := h
theorem gj_shlN {n k : Nat} (hk : k < 32) (h : n * 2 ^ k < 2 ^ 32) : nI n <<< (nI k &&& 31) = nI (n * 2 ^ k) := by
  refine pk_shlN _ k ?_ h
  have : ∀ k : Fin 32, ((nI k.val &&& 31).toBitVec.smod 32).toNat = k.val := by decide +kernel
  exact this ⟨k, hk⟩
theorem gj_shrN {n k : Nat} (hk : k < 32) (h : n < 2 ^ 31) : nI n >>> (nI k &&& 31) = nI (n / 2 ^ k) := by
  refine pk_shrN h _ k ?_
  have : ∀ k : Fin 32, ((nI k.val &&& 31).toBitVec.smod 32).toNat = k.val := by decide +kernel
  exact this ⟨k, hk⟩

section GJ
variable {p : Program} {l : Launch} {e : Env} {R : Room} {s : State} {m : MethodId} {args : Array Value} {below : List Frame} {meth : Method} {c : Code} {cells slots : Nat} {Q : State → Prop}
variable {nL : Nat} {cc : ByteArray} {Ts : List Cond} {own : String} {pc : Nat} {lo : List (Nat × Value)} {st : List Value}
variable {ω : Type} {B : ω → Heap → List Loc → Prop} {w : ω}
theorem gj_eq {pc' : Nat} {lo' : List (Nat × Value)} {st' : List Value} {w' : ω} (h1 : pc = pc') (h2 : lo = lo') (h3 : st = st') (h4 : w = w') (kk : Gj p l e R s m args below meth c nL B cells slots Q pc' lo' st' w') : Gj p l e R s m args below meth c nL B cells slots Q pc lo st w := by subst h1; subst h2; subst h3; subst h4; exact kk
theorem gj_pick {lo' : List (Nat × Value)} (ks : List Nat) (hl : lv_pick lo ks = lo') (kk : Gj p l e R s m args below meth c nL B cells slots Q pc lo' st w) : Gj p l e R s m args below meth c nL B cells slots Q pc lo st w := fun H locs ls hB h => kk H locs ls hB (lv_sub h ks hl)
theorem gj_iconst (cx : CallFix p m c cc nL s args Ts own) {n : Int} {v : Int32} (hdg : decode cc pc = .ok (.iconst n, 1)) (hv : Int32.ofInt n = v) (kk : Gj p l e R s m args below meth c nL B cells slots Q (pc + 1) lo (.int v :: st) w) : Gj p l e R s m args below meth c nL B cells slots Q pc lo (st) w :=
  fun H locs ls hB h => lv_iconst cx.1 cx.2.1 hdg hv (kk H locs ls hB h)
theorem gj_bipush (cx : CallFix p m c cc nL s args Ts own) {n : Int} {v : Int32} (hdg : decode cc pc = .ok (.bipush n, 2)) (hv : (Int8.ofInt n).toInt32 = v) (kk : Gj p l e R s m args below meth c nL B cells slots Q (pc + 2) lo (.int v :: st) w) : Gj p l e R s m args below meth c nL B cells slots Q pc lo (st) w :=
  fun H locs ls hB h => lv_bipush cx.1 cx.2.1 hdg hv (kk H locs ls hB h)
theorem gj_sipush (cx : CallFix p m c cc nL s args Ts own) {n : Int} {v : Int32} (hdg : decode cc pc = .ok (.sipush n, 3)) (hv : (Int16.ofInt n).toInt32 = v) (kk : Gj p l e R s m args below meth c nL B cells slots Q (pc + 3) lo (.int v :: st) w) : Gj p l e R s m args below meth c nL B cells slots Q pc lo (st) w :=
  fun H locs ls hB h => lv_sipush cx.1 cx.2.1 hdg hv (kk H locs ls hB h)
theorem gj_lconst (cx : CallFix p m c cc nL s args Ts own) {n : Fin 2} {v : Int64} (hdg : decode cc pc = .ok (.lconst n, 1)) (hv : Int64.ofNat (n : Nat) = v) (kk : Gj p l e R s m args below meth c nL B cells slots Q (pc + 1) lo (.long v :: st) w) : Gj p l e R s m args below meth c nL B cells slots Q pc lo (st) w :=
  fun H locs ls hB h => lv_lconst cx.1 cx.2.1 hdg hv (kk H locs ls hB h)
theorem gj_ldc2 (cx : CallFix p m c cc nL s args Ts own) {index : Nat} {v : Int64} (hdg : decode cc pc = .ok (.ldc2_w index, 3)) (hw : Cond.constantLong own index v ∈ Ts) (kk : Gj p l e R s m args below meth c nL B cells slots Q (pc + 3) lo (.long v :: st) w) : Gj p l e R s m args below meth c nL B cells slots Q pc lo st w :=
  fun H locs ls hB h => lv_ldc2 cx.1 cx.2.1 cx.2.2.2.1 (cx.2.2.2.2 _ hw) hdg (kk H locs ls hB h)
theorem gj_ldc (cx : CallFix p m c cc nL s args Ts own) {index : Nat} {v : Int32} (hdg : decode cc pc = .ok (.ldc index, 2)) (hw : Cond.constant own index v ∈ Ts) (kk : Gj p l e R s m args below meth c nL B cells slots Q (pc + 2) lo (.int v :: st) w) : Gj p l e R s m args below meth c nL B cells slots Q pc lo st w :=
  fun H locs ls hB h => lv_ldc cx.1 cx.2.1 cx.2.2.2.1 (cx.2.2.2.2 _ hw) hdg (kk H locs ls hB h)
theorem gj_iload_n (cx : CallFix p m c cc nL s args Ts own) {k : Fin 4} {i : Nat} {x : Int32} (hdg : decode cc pc = .ok (.iload_n k, 1)) (hi : (k : Nat) = i) (hl : lo.lookup i = some (.int x)) (kk : Gj p l e R s m args below meth c nL B cells slots Q (pc + 1) lo (.int x :: st) w) : Gj p l e R s m args below meth c nL B cells slots Q pc lo (st) w :=
  fun H locs ls hB h => lv_iload_n cx.1 cx.2.1 hdg hi (h.2.2 (i, .int x) (gj_lk hl)) (kk H locs ls hB h)
theorem gj_iload (cx : CallFix p m c cc nL s args Ts own) {i : Nat} {x : Int32} (hdg : decode cc pc = .ok (.iload i, 2)) (hl : lo.lookup i = some (.int x)) (kk : Gj p l e R s m args below meth c nL B cells slots Q (pc + 2) lo (.int x :: st) w) : Gj p l e R s m args below meth c nL B cells slots Q pc lo (st) w :=
  fun H locs ls hB h => lv_iload cx.1 cx.2.1 hdg (h.2.2 (i, .int x) (gj_lk hl)) (kk H locs ls hB h)
theorem gj_lload_n (cx : CallFix p m c cc nL s args Ts own) {k : Fin 4} {i : Nat} {x : Int64} (hdg : decode cc pc = .ok (.lload_n k, 1)) (hi : (k : Nat) = i) (hl : lo.lookup i = some (.long x)) (kk : Gj p l e R s m args below meth c nL B cells slots Q (pc + 1) lo (.long x :: st) w) : Gj p l e R s m args below meth c nL B cells slots Q pc lo (st) w :=
  fun H locs ls hB h => lv_lload_n cx.1 cx.2.1 hdg hi (h.2.2 (i, .long x) (gj_lk hl)) (kk H locs ls hB h)
theorem gj_lload (cx : CallFix p m c cc nL s args Ts own) {i : Nat} {x : Int64} (hdg : decode cc pc = .ok (.lload i, 2)) (hl : lo.lookup i = some (.long x)) (kk : Gj p l e R s m args below meth c nL B cells slots Q (pc + 2) lo (.long x :: st) w) : Gj p l e R s m args below meth c nL B cells slots Q pc lo (st) w :=
  fun H locs ls hB h => lv_lload cx.1 cx.2.1 hdg (h.2.2 (i, .long x) (gj_lk hl)) (kk H locs ls hB h)
theorem gj_aload_n (cx : CallFix p m c cc nL s args Ts own) {k : Fin 4} {i : Nat} {x : Nat} (hdg : decode cc pc = .ok (.aload_n k, 1)) (hi : (k : Nat) = i) (hl : lo.lookup i = some (.ref x)) (kk : Gj p l e R s m args below meth c nL B cells slots Q (pc + 1) lo (.ref x :: st) w) : Gj p l e R s m args below meth c nL B cells slots Q pc lo (st) w :=
  fun H locs ls hB h => lv_aload_n cx.1 cx.2.1 hdg hi (h.2.2 (i, .ref x) (gj_lk hl)) (kk H locs ls hB h)
theorem gj_aload (cx : CallFix p m c cc nL s args Ts own) {i : Nat} {x : Nat} (hdg : decode cc pc = .ok (.aload i, 2)) (hl : lo.lookup i = some (.ref x)) (kk : Gj p l e R s m args below meth c nL B cells slots Q (pc + 2) lo (.ref x :: st) w) : Gj p l e R s m args below meth c nL B cells slots Q pc lo (st) w :=
  fun H locs ls hB h => lv_aload cx.1 cx.2.1 hdg (h.2.2 (i, .ref x) (gj_lk hl)) (kk H locs ls hB h)
theorem gj_istore_n (cx : CallFix p m c cc nL s args Ts own) {k : Fin 4} {i : Nat} {x : Int32} {lo' : List (Nat × Value)} (hdg : decode cc pc = .ok (.istore_n k, 1)) (hi : (k : Nat) = i) (hn : i < nL) (hl : (i, Value.int x) :: lo.filter (fun q => !(q.1 == i) && !(q.1 + 1 == i && q.2.category == 2)) = lo') (kk : Gj p l e R s m args below meth c nL B cells slots Q (pc + 1) lo' st w) : Gj p l e R s m args below meth c nL B cells slots Q pc lo (Value.int x :: st) w :=
  fun H locs ls hB h => lv_istore_n cx.1 cx.2.1 hdg hi h hn hl (fun ls' h' => kk H locs ls' hB h')
theorem gj_istore (cx : CallFix p m c cc nL s args Ts own) {i : Nat} {x : Int32} {lo' : List (Nat × Value)} (hdg : decode cc pc = .ok (.istore i, 2)) (hn : i < nL) (hl : (i, Value.int x) :: lo.filter (fun q => !(q.1 == i) && !(q.1 + 1 == i && q.2.category == 2)) = lo') (kk : Gj p l e R s m args below meth c nL B cells slots Q (pc + 2) lo' st w) : Gj p l e R s m args below meth c nL B cells slots Q pc lo (Value.int x :: st) w :=
  fun H locs ls hB h => lv_istore cx.1 cx.2.1 hdg h hn hl (fun ls' h' => kk H locs ls' hB h')
theorem gj_lstore_n (cx : CallFix p m c cc nL s args Ts own) {k : Fin 4} {i : Nat} {x : Int64} {lo' : List (Nat × Value)} (hdg : decode cc pc = .ok (.lstore_n k, 1)) (hi : (k : Nat) = i) (hn : i + 1 < nL) (hl : (i, Value.long x) :: lo.filter (fun q => !(q.1 == i) && (!(q.1 == i + 1) && !(q.1 + 1 == i && q.2.category == 2))) = lo') (kk : Gj p l e R s m args below meth c nL B cells slots Q (pc + 1) lo' st w) : Gj p l e R s m args below meth c nL B cells slots Q pc lo (Value.long x :: st) w :=
  fun H locs ls hB h => lv_lstore_n cx.1 cx.2.1 hdg hi h hn hl (fun ls' h' => kk H locs ls' hB h')
theorem gj_lstore (cx : CallFix p m c cc nL s args Ts own) {i : Nat} {x : Int64} {lo' : List (Nat × Value)} (hdg : decode cc pc = .ok (.lstore i, 2)) (hn : i + 1 < nL) (hl : (i, Value.long x) :: lo.filter (fun q => !(q.1 == i) && (!(q.1 == i + 1) && !(q.1 + 1 == i && q.2.category == 2))) = lo') (kk : Gj p l e R s m args below meth c nL B cells slots Q (pc + 2) lo' st w) : Gj p l e R s m args below meth c nL B cells slots Q pc lo (Value.long x :: st) w :=
  fun H locs ls hB h => lv_lstore cx.1 cx.2.1 hdg h hn hl (fun ls' h' => kk H locs ls' hB h')
theorem gj_astore_n (cx : CallFix p m c cc nL s args Ts own) {k : Fin 4} {i : Nat} {x : Nat} {lo' : List (Nat × Value)} (hdg : decode cc pc = .ok (.astore_n k, 1)) (hi : (k : Nat) = i) (hn : i < nL) (hl : (i, Value.ref x) :: lo.filter (fun q => !(q.1 == i) && !(q.1 + 1 == i && q.2.category == 2)) = lo') (kk : Gj p l e R s m args below meth c nL B cells slots Q (pc + 1) lo' st w) : Gj p l e R s m args below meth c nL B cells slots Q pc lo (Value.ref x :: st) w :=
  fun H locs ls hB h => lv_astore_n cx.1 cx.2.1 hdg hi h hn hl (fun ls' h' => kk H locs ls' hB h')
theorem gj_astore (cx : CallFix p m c cc nL s args Ts own) {i : Nat} {x : Nat} {lo' : List (Nat × Value)} (hdg : decode cc pc = .ok (.astore i, 2)) (hn : i < nL) (hl : (i, Value.ref x) :: lo.filter (fun q => !(q.1 == i) && !(q.1 + 1 == i && q.2.category == 2)) = lo') (kk : Gj p l e R s m args below meth c nL B cells slots Q (pc + 2) lo' st w) : Gj p l e R s m args below meth c nL B cells slots Q pc lo (Value.ref x :: st) w :=
  fun H locs ls hB h => lv_astore cx.1 cx.2.1 hdg h hn hl (fun ls' h' => kk H locs ls' hB h')
theorem gj_iinc (cx : CallFix p m c cc nL s args Ts own) {i k : Nat} {n : Int} {x v : Int32} {lo' : List (Nat × Value)} (hdg : decode cc pc = .ok (.iinc i n, 3)) (hk : lo[k]? = some (i, .int x)) (hv : x + Int32.ofInt n = v) (hn : i < nL) (hl : (i, Value.int v) :: lo.filter (fun q => !(q.1 == i) && !(q.1 + 1 == i && q.2.category == 2)) = lo') (kk : Gj p l e R s m args below meth c nL B cells slots Q (pc + 3) lo' st w) : Gj p l e R s m args below meth c nL B cells slots Q pc lo st w :=
  fun H locs ls hB h => lv_iinc cx.1 cx.2.1 hdg h hk hv hn hl (fun ls' h' => kk H locs ls' hB h')
theorem gj_iadd (cx : CallFix p m c cc nL s args Ts own) {x y : Int32} (hdg : decode cc pc = .ok (.iadd, 1))  (kk : Gj p l e R s m args below meth c nL B cells slots Q (pc + 1) lo (.int (x + y) :: st) w) : Gj p l e R s m args below meth c nL B cells slots Q pc lo (.int y :: .int x :: st) w :=
  fun H locs ls hB h => lv_iadd cx.1 cx.2.1 hdg (kk H locs ls hB h)
theorem gj_isub (cx : CallFix p m c cc nL s args Ts own) {x y : Int32} (hdg : decode cc pc = .ok (.isub, 1))  (kk : Gj p l e R s m args below meth c nL B cells slots Q (pc + 1) lo (.int (x - y) :: st) w) : Gj p l e R s m args below meth c nL B cells slots Q pc lo (.int y :: .int x :: st) w :=
  fun H locs ls hB h => lv_isub cx.1 cx.2.1 hdg (kk H locs ls hB h)
theorem gj_imul (cx : CallFix p m c cc nL s args Ts own) {x y : Int32} (hdg : decode cc pc = .ok (.imul, 1))  (kk : Gj p l e R s m args below meth c nL B cells slots Q (pc + 1) lo (.int (x * y) :: st) w) : Gj p l e R s m args below meth c nL B cells slots Q pc lo (.int y :: .int x :: st) w :=
  fun H locs ls hB h => lv_imul cx.1 cx.2.1 hdg (kk H locs ls hB h)
theorem gj_iand (cx : CallFix p m c cc nL s args Ts own) {x y : Int32} (hdg : decode cc pc = .ok (.iand, 1))  (kk : Gj p l e R s m args below meth c nL B cells slots Q (pc + 1) lo (.int (x &&& y) :: st) w) : Gj p l e R s m args below meth c nL B cells slots Q pc lo (.int y :: .int x :: st) w :=
  fun H locs ls hB h => lv_iand cx.1 cx.2.1 hdg (kk H locs ls hB h)
theorem gj_ior (cx : CallFix p m c cc nL s args Ts own) {x y : Int32} (hdg : decode cc pc = .ok (.ior, 1))  (kk : Gj p l e R s m args below meth c nL B cells slots Q (pc + 1) lo (.int (x ||| y) :: st) w) : Gj p l e R s m args below meth c nL B cells slots Q pc lo (.int y :: .int x :: st) w :=
  fun H locs ls hB h => lv_ior cx.1 cx.2.1 hdg (kk H locs ls hB h)
theorem gj_ishl (cx : CallFix p m c cc nL s args Ts own) {x y : Int32} (hdg : decode cc pc = .ok (.ishl, 1))  (kk : Gj p l e R s m args below meth c nL B cells slots Q (pc + 1) lo (.int (x <<< (y &&& 31)) :: st) w) : Gj p l e R s m args below meth c nL B cells slots Q pc lo (.int y :: .int x :: st) w :=
  fun H locs ls hB h => lv_ishl cx.1 cx.2.1 hdg (kk H locs ls hB h)
theorem gj_ishr (cx : CallFix p m c cc nL s args Ts own) {x y : Int32} (hdg : decode cc pc = .ok (.ishr, 1))  (kk : Gj p l e R s m args below meth c nL B cells slots Q (pc + 1) lo (.int (x >>> (y &&& 31)) :: st) w) : Gj p l e R s m args below meth c nL B cells slots Q pc lo (.int y :: .int x :: st) w :=
  fun H locs ls hB h => lv_ishr cx.1 cx.2.1 hdg (kk H locs ls hB h)
theorem gj_ladd (cx : CallFix p m c cc nL s args Ts own) {x y : Int64} (hdg : decode cc pc = .ok (.ladd, 1))  (kk : Gj p l e R s m args below meth c nL B cells slots Q (pc + 1) lo (.long (x + y) :: st) w) : Gj p l e R s m args below meth c nL B cells slots Q pc lo (.long y :: .long x :: st) w :=
  fun H locs ls hB h => lv_ladd cx.1 cx.2.1 hdg (kk H locs ls hB h)
theorem gj_lsub (cx : CallFix p m c cc nL s args Ts own) {x y : Int64} (hdg : decode cc pc = .ok (.lsub, 1))  (kk : Gj p l e R s m args below meth c nL B cells slots Q (pc + 1) lo (.long (x - y) :: st) w) : Gj p l e R s m args below meth c nL B cells slots Q pc lo (.long y :: .long x :: st) w :=
  fun H locs ls hB h => lv_lsub cx.1 cx.2.1 hdg (kk H locs ls hB h)
theorem gj_lmul (cx : CallFix p m c cc nL s args Ts own) {x y : Int64} (hdg : decode cc pc = .ok (.lmul, 1))  (kk : Gj p l e R s m args below meth c nL B cells slots Q (pc + 1) lo (.long (x * y) :: st) w) : Gj p l e R s m args below meth c nL B cells slots Q pc lo (.long y :: .long x :: st) w :=
  fun H locs ls hB h => lv_lmul cx.1 cx.2.1 hdg (kk H locs ls hB h)
theorem gj_land (cx : CallFix p m c cc nL s args Ts own) {x y : Int64} (hdg : decode cc pc = .ok (.land, 1))  (kk : Gj p l e R s m args below meth c nL B cells slots Q (pc + 1) lo (.long (x &&& y) :: st) w) : Gj p l e R s m args below meth c nL B cells slots Q pc lo (.long y :: .long x :: st) w :=
  fun H locs ls hB h => lv_land cx.1 cx.2.1 hdg (kk H locs ls hB h)
theorem gj_lor (cx : CallFix p m c cc nL s args Ts own) {x y : Int64} (hdg : decode cc pc = .ok (.lor, 1))  (kk : Gj p l e R s m args below meth c nL B cells slots Q (pc + 1) lo (.long (x ||| y) :: st) w) : Gj p l e R s m args below meth c nL B cells slots Q pc lo (.long y :: .long x :: st) w :=
  fun H locs ls hB h => lv_lor cx.1 cx.2.1 hdg (kk H locs ls hB h)
theorem gj_lshl (cx : CallFix p m c cc nL s args Ts own) {x v : Int64} {y : Int32} (hdg : decode cc pc = .ok (.lshl, 1)) (hv : x <<< (y.toInt64 &&& 63) = v) (kk : Gj p l e R s m args below meth c nL B cells slots Q (pc + 1) lo (.long v :: st) w) : Gj p l e R s m args below meth c nL B cells slots Q pc lo (.int y :: .long x :: st) w :=
  fun H locs ls hB h => lv_lshl cx.1 cx.2.1 hdg hv (kk H locs ls hB h)
theorem gj_lshr (cx : CallFix p m c cc nL s args Ts own) {x v : Int64} {y : Int32} (hdg : decode cc pc = .ok (.lshr, 1)) (hv : x >>> (y.toInt64 &&& 63) = v) (kk : Gj p l e R s m args below meth c nL B cells slots Q (pc + 1) lo (.long v :: st) w) : Gj p l e R s m args below meth c nL B cells slots Q pc lo (.int y :: .long x :: st) w :=
  fun H locs ls hB h => lv_lshr cx.1 cx.2.1 hdg hv (kk H locs ls hB h)
theorem gj_iushr (cx : CallFix p m c cc nL s args Ts own) {x y v : Int32} (hdg : decode cc pc = .ok (.iushr, 1)) (hv : (x.toUInt32 >>> (y.toUInt32 &&& Int32.toUInt32 31)).toInt32 = v) (kk : Gj p l e R s m args below meth c nL B cells slots Q (pc + 1) lo (.int v :: st) w) : Gj p l e R s m args below meth c nL B cells slots Q pc lo (.int y :: .int x :: st) w :=
  fun H locs ls hB h => lv_iushr cx.1 cx.2.1 hdg hv (kk H locs ls hB h)
theorem gj_ldcw (cx : CallFix p m c cc nL s args Ts own) {index : Nat} {v : Int32} (hdg : decode cc pc = .ok (.ldc_w index, 3)) (hw : Cond.constant own index v ∈ Ts) (kk : Gj p l e R s m args below meth c nL B cells slots Q (pc + 3) lo (.int v :: st) w) : Gj p l e R s m args below meth c nL B cells slots Q pc lo st w :=
  fun H locs ls hB h => lv_ldcw cx.1 cx.2.1 cx.2.2.2.1 (cx.2.2.2.2 _ hw) hdg (kk H locs ls hB h)
theorem gj_i2l (cx : CallFix p m c cc nL s args Ts own) {x : Int32} {v : Int64} (hdg : decode cc pc = .ok (.i2l, 1)) (hv : x.toInt64 = v) (kk : Gj p l e R s m args below meth c nL B cells slots Q (pc + 1) lo (.long v :: st) w) : Gj p l e R s m args below meth c nL B cells slots Q pc lo (.int x :: st) w :=
  fun H locs ls hB h => lv_i2l cx.1 cx.2.1 hdg hv (kk H locs ls hB h)
theorem gj_l2i (cx : CallFix p m c cc nL s args Ts own) {x : Int64} {v : Int32} (hdg : decode cc pc = .ok (.l2i, 1)) (hv : x.toInt32 = v) (kk : Gj p l e R s m args below meth c nL B cells slots Q (pc + 1) lo (.int v :: st) w) : Gj p l e R s m args below meth c nL B cells slots Q pc lo (.long x :: st) w :=
  fun H locs ls hB h => lv_l2i cx.1 cx.2.1 hdg hv (kk H locs ls hB h)
theorem gj_idiv (cx : CallFix p m c cc nL s args Ts own) {x y : Int32} (hdg : decode cc pc = .ok (.idiv, 1)) (hne : ¬ y = 0) (kk : Gj p l e R s m args below meth c nL B cells slots Q (pc + 1) lo (.int (x / y) :: st) w) : Gj p l e R s m args below meth c nL B cells slots Q pc lo (.int y :: .int x :: st) w :=
  fun H locs ls hB h => lv_idiv cx.1 cx.2.1 hdg hne (kk H locs ls hB h)
theorem gj_irem (cx : CallFix p m c cc nL s args Ts own) {x y : Int32} (hdg : decode cc pc = .ok (.irem, 1)) (hne : ¬ y = 0) (kk : Gj p l e R s m args below meth c nL B cells slots Q (pc + 1) lo (.int (x - x / y * y) :: st) w) : Gj p l e R s m args below meth c nL B cells slots Q pc lo (.int y :: .int x :: st) w :=
  fun H locs ls hB h => lv_irem cx.1 cx.2.1 hdg hne (kk H locs ls hB h)
theorem gj_toi {x y : Int32} (h : x = y) (kk : Gj p l e R s m args below meth c nL B cells slots Q pc lo (.int y :: st) w) : Gj p l e R s m args below meth c nL B cells slots Q pc lo (.int x :: st) w := h ▸ kk
theorem gj_tol {x y : Int64} (h : x = y) (kk : Gj p l e R s m args below meth c nL B cells slots Q pc lo (.long y :: st) w) : Gj p l e R s m args below meth c nL B cells slots Q pc lo (.long x :: st) w := h ▸ kk
theorem gj_topi {x : Int32} (kk : ∀ y : Int32, y = x → Gj p l e R s m args below meth c nL B cells slots Q pc lo (.int y :: st) w) : Gj p l e R s m args below meth c nL B cells slots Q pc lo (.int x :: st) w := kk x rfl
theorem gj_topl {x : Int64} (kk : ∀ y : Int64, y = x → Gj p l e R s m args below meth c nL B cells slots Q pc lo (.long y :: st) w) : Gj p l e R s m args below meth c nL B cells slots Q pc lo (.long x :: st) w := kk x rfl
theorem gj_iaddN (cx : CallFix p m c cc nL s args Ts own) {a d : Nat} (hdg : decode cc pc = .ok (.iadd, 1))  (kk : Gj p l e R s m args below meth c nL B cells slots Q (pc + 1) lo (.int (nI (a + d)) :: st) w) : Gj p l e R s m args below meth c nL B cells slots Q pc lo (.int (nI d) :: .int (nI a) :: st) w :=
  gj_iadd cx hdg (gj_toi (nI_add a d) kk)
theorem gj_imulN (cx : CallFix p m c cc nL s args Ts own) {a d : Nat} (hdg : decode cc pc = .ok (.imul, 1))  (kk : Gj p l e R s m args below meth c nL B cells slots Q (pc + 1) lo (.int (nI (a * d)) :: st) w) : Gj p l e R s m args below meth c nL B cells slots Q pc lo (.int (nI d) :: .int (nI a) :: st) w :=
  gj_imul cx hdg (gj_toi (pk_mul a d) kk)
theorem gj_isubN (cx : CallFix p m c cc nL s args Ts own) {a d : Nat} (hdg : decode cc pc = .ok (.isub, 1)) (hle : d ≤ a) (kk : Gj p l e R s m args below meth c nL B cells slots Q (pc + 1) lo (.int (nI (a - d)) :: st) w) : Gj p l e R s m args below meth c nL B cells slots Q pc lo (.int (nI d) :: .int (nI a) :: st) w :=
  gj_isub cx hdg (gj_toi (pk_sub hle) kk)
theorem gj_idivN (cx : CallFix p m c cc nL s args Ts own) {a d : Nat} (hdg : decode cc pc = .ok (.idiv, 1)) (ha : a < 2 ^ 31) (h0 : 0 < d) (hd : d < 2 ^ 31) (kk : Gj p l e R s m args below meth c nL B cells slots Q (pc + 1) lo (.int (nI (a / d)) :: st) w) : Gj p l e R s m args below meth c nL B cells slots Q pc lo (.int (nI d) :: .int (nI a) :: st) w :=
  gj_idiv cx hdg (nI_ne0 h0 hd) (gj_toi (pk_div ha h0 hd) kk)
theorem gj_iremN (cx : CallFix p m c cc nL s args Ts own) {a d : Nat} (hdg : decode cc pc = .ok (.irem, 1)) (ha : a < 2 ^ 31) (h0 : 0 < d) (hd : d < 2 ^ 31) (kk : Gj p l e R s m args below meth c nL B cells slots Q (pc + 1) lo (.int (nI (a % d)) :: st) w) : Gj p l e R s m args below meth c nL B cells slots Q pc lo (.int (nI d) :: .int (nI a) :: st) w :=
  gj_irem cx hdg (nI_ne0 h0 hd) (gj_toi (pk_rem ha h0 hd) kk)
theorem gj_ishlN (cx : CallFix p m c cc nL s args Ts own) {a d : Nat} (hdg : decode cc pc = .ok (.ishl, 1)) (hd : d < 32) (h : a * 2 ^ d < 2 ^ 32) (kk : Gj p l e R s m args below meth c nL B cells slots Q (pc + 1) lo (.int (nI (a * 2 ^ d)) :: st) w) : Gj p l e R s m args below meth c nL B cells slots Q pc lo (.int (nI d) :: .int (nI a) :: st) w :=
  gj_ishl cx hdg (gj_toi (gj_shlN hd h) kk)
theorem gj_ishrN (cx : CallFix p m c cc nL s args Ts own) {a d : Nat} (hdg : decode cc pc = .ok (.ishr, 1)) (hd : d < 32) (h : a < 2 ^ 31) (kk : Gj p l e R s m args below meth c nL B cells slots Q (pc + 1) lo (.int (nI (a / 2 ^ d)) :: st) w) : Gj p l e R s m args below meth c nL B cells slots Q pc lo (.int (nI d) :: .int (nI a) :: st) w :=
  gj_ishr cx hdg (gj_toi (gj_shrN hd h) kk)
theorem gj_iincN (cx : CallFix p m c cc nL s args Ts own) {i k a d : Nat} {n : Int} {lo' : List (Nat × Value)} (hdg : decode cc pc = .ok (.iinc i n, 3)) (hk : lo[k]? = some (i, .int (nI a))) (hv : Int32.ofInt n = nI d) (hn : i < nL) (hl : (i, Value.int (nI (a + d))) :: lo.filter (fun q => !(q.1 == i) && !(q.1 + 1 == i && q.2.category == 2)) = lo') (kk : Gj p l e R s m args below meth c nL B cells slots Q (pc + 3) lo' st w) : Gj p l e R s m args below meth c nL B cells slots Q pc lo st w :=
  gj_iinc cx hdg hk (by rw [hv]; exact nI_add a d) hn hl kk
theorem gj_dup (cx : CallFix p m c cc nL s args Ts own) {va : Value} (hdg : decode cc pc = .ok (.dup, 1)) (hva : va.category = 1) (kk : Gj p l e R s m args below meth c nL B cells slots Q (pc + 1) lo (va :: va :: st) w) : Gj p l e R s m args below meth c nL B cells slots Q pc lo (va :: st) w :=
  fun H locs ls hB h => lv_dup cx.1 cx.2.1 hdg hva (kk H locs ls hB h)
theorem gj_pop (cx : CallFix p m c cc nL s args Ts own) {va : Value} (hdg : decode cc pc = .ok (.pop, 1)) (hva : va.category = 1) (kk : Gj p l e R s m args below meth c nL B cells slots Q (pc + 1) lo (st) w) : Gj p l e R s m args below meth c nL B cells slots Q pc lo (va :: st) w :=
  fun H locs ls hB h => lv_pop cx.1 cx.2.1 hdg hva (kk H locs ls hB h)
theorem gj_dup_x1 (cx : CallFix p m c cc nL s args Ts own) {va vb : Value} (hdg : decode cc pc = .ok (.dup_x1, 1)) (hva : va.category = 1) (hvb : vb.category = 1) (kk : Gj p l e R s m args below meth c nL B cells slots Q (pc + 1) lo (va :: vb :: va :: st) w) : Gj p l e R s m args below meth c nL B cells slots Q pc lo (va :: vb :: st) w :=
  fun H locs ls hB h => lv_dup_x1 cx.1 cx.2.1 hdg hva hvb (kk H locs ls hB h)
theorem gj_dup2_11 (cx : CallFix p m c cc nL s args Ts own) {va vb : Value} (hdg : decode cc pc = .ok (.dup2, 1)) (hva : va.category = 1) (hvb : vb.category = 1) (kk : Gj p l e R s m args below meth c nL B cells slots Q (pc + 1) lo (va :: vb :: va :: vb :: st) w) : Gj p l e R s m args below meth c nL B cells slots Q pc lo (va :: vb :: st) w :=
  fun H locs ls hB h => lv_dup2_11 cx.1 cx.2.1 hdg hva hvb (kk H locs ls hB h)
theorem gj_dup2_2 (cx : CallFix p m c cc nL s args Ts own) {va : Value} (hdg : decode cc pc = .ok (.dup2, 1)) (hva : va.category = 2) (kk : Gj p l e R s m args below meth c nL B cells slots Q (pc + 1) lo (va :: va :: st) w) : Gj p l e R s m args below meth c nL B cells slots Q pc lo (va :: st) w :=
  fun H locs ls hB h => lv_dup2_2 cx.1 cx.2.1 hdg hva (kk H locs ls hB h)
theorem gj_goto (cx : CallFix p m c cc nL s args Ts own) {off : Int} {tgt : Nat} (hdg : decode cc pc = .ok (.goto off, 3)) (ht : (pc : Int) + off = (tgt : Int)) (kk : Gj p l e R s m args below meth c nL B cells slots Q tgt lo st w) : Gj p l e R s m args below meth c nL B cells slots Q pc lo st w :=
  fun H locs ls hB h => lv_goto cx.1 cx.2.1 hdg ht (kk H locs ls hB h)
theorem gj_if_eq (cx : CallFix p m c cc nL s args Ts own) {x : Int32} {off : Int} {tgt : Nat} (hdg : decode cc pc = .ok (.ifCond .eq off, 3)) (ht : (pc : Int) + off = (tgt : Int)) (kt : x = 0 → Gj p l e R s m args below meth c nL B cells slots Q tgt lo st w) (kf : ¬ x = 0 → Gj p l e R s m args below meth c nL B cells slots Q (pc + 3) lo st w) : Gj p l e R s m args below meth c nL B cells slots Q pc lo (.int x :: st) w :=
  fun H locs ls hB h => lv_if_eq cx.1 cx.2.1 hdg ht (fun q => kt q H locs ls hB h) (fun q => kf q H locs ls hB h)
theorem gj_icmp_eq (cx : CallFix p m c cc nL s args Ts own) {x y : Int32} {off : Int} {tgt : Nat} (hdg : decode cc pc = .ok (.if_icmp .eq off, 3)) (ht : (pc : Int) + off = (tgt : Int)) (kt : x = y → Gj p l e R s m args below meth c nL B cells slots Q tgt lo st w) (kf : ¬ x = y → Gj p l e R s m args below meth c nL B cells slots Q (pc + 3) lo st w) : Gj p l e R s m args below meth c nL B cells slots Q pc lo (.int y :: .int x :: st) w :=
  fun H locs ls hB h => lv_icmp_eq cx.1 cx.2.1 hdg ht (fun q => kt q H locs ls hB h) (fun q => kf q H locs ls hB h)
theorem gj_icmp_eqN (cx : CallFix p m c cc nL s args Ts own) {a d : Nat} {off : Int} {tgt : Nat} (hdg : decode cc pc = .ok (.if_icmp .eq off, 3)) (ht : (pc : Int) + off = (tgt : Int)) (ha : a < 2 ^ 31) (hd : d < 2 ^ 31) (kt : a = d → Gj p l e R s m args below meth c nL B cells slots Q tgt lo st w) (kf : a ≠ d → Gj p l e R s m args below meth c nL B cells slots Q (pc + 3) lo st w) : Gj p l e R s m args below meth c nL B cells slots Q pc lo (.int (nI d) :: .int (nI a) :: st) w :=
  gj_icmp_eq cx hdg ht (fun q => kt ((nI_eq ha hd).mp q)) (fun q => kf (fun z => q ((nI_eq ha hd).mpr z)))
theorem gj_z31 : 0 < 2 ^ 31 := by decide
theorem gj_if_eqN (cx : CallFix p m c cc nL s args Ts own) {a : Nat} {off : Int} {tgt : Nat} (hdg : decode cc pc = .ok (.ifCond .eq off, 3)) (ht : (pc : Int) + off = (tgt : Int)) (ha : a < 2 ^ 31) (kt : a = 0 → Gj p l e R s m args below meth c nL B cells slots Q tgt lo st w) (kf : a ≠ 0 → Gj p l e R s m args below meth c nL B cells slots Q (pc + 3) lo st w) : Gj p l e R s m args below meth c nL B cells slots Q pc lo (.int (nI a) :: st) w :=
  gj_if_eq cx hdg ht (fun q => kt ((nI_eq ha gj_z31).mp q)) (fun q => kf (fun z => q (by rw [z]; rfl)))
theorem gj_lcmp_eq (cx : CallFix p m c cc nL s args Ts own) {x y : Int64} {off : Int} {tgt : Nat} (hdg : decode cc pc = .ok (.lcmp, 1)) (hdg2 : decode cc (pc + 1) = .ok (.ifCond .eq off, 3)) (ht : ((pc + 1 : Nat) : Int) + off = (tgt : Int)) (kt : x = y → Gj p l e R s m args below meth c nL B cells slots Q tgt lo st w) (kf : ¬ x = y → Gj p l e R s m args below meth c nL B cells slots Q (pc + 4) lo st w) : Gj p l e R s m args below meth c nL B cells slots Q pc lo (.long y :: .long x :: st) w :=
  fun H locs ls hB h => W.lcmp cx.1 cx.2.1 hdg ((gj_if_eq cx hdg2 ht (fun q => kt ((lg_cmp_eq x y).mp q)) (fun q => kf (fun z => q ((lg_cmp_eq x y).mpr z))) : Gj p l e R s m args below meth c nL B cells slots Q (pc + 1) lo (.int (lg_cmp x y) :: st) w) H locs ls hB h)
theorem gj_if_ne (cx : CallFix p m c cc nL s args Ts own) {x : Int32} {off : Int} {tgt : Nat} (hdg : decode cc pc = .ok (.ifCond .ne off, 3)) (ht : (pc : Int) + off = (tgt : Int)) (kt : ¬ x = 0 → Gj p l e R s m args below meth c nL B cells slots Q tgt lo st w) (kf : x = 0 → Gj p l e R s m args below meth c nL B cells slots Q (pc + 3) lo st w) : Gj p l e R s m args below meth c nL B cells slots Q pc lo (.int x :: st) w :=
  fun H locs ls hB h => lv_if_ne cx.1 cx.2.1 hdg ht (fun q => kt q H locs ls hB h) (fun q => kf q H locs ls hB h)
theorem gj_icmp_ne (cx : CallFix p m c cc nL s args Ts own) {x y : Int32} {off : Int} {tgt : Nat} (hdg : decode cc pc = .ok (.if_icmp .ne off, 3)) (ht : (pc : Int) + off = (tgt : Int)) (kt : ¬ x = y → Gj p l e R s m args below meth c nL B cells slots Q tgt lo st w) (kf : x = y → Gj p l e R s m args below meth c nL B cells slots Q (pc + 3) lo st w) : Gj p l e R s m args below meth c nL B cells slots Q pc lo (.int y :: .int x :: st) w :=
  fun H locs ls hB h => lv_icmp_ne cx.1 cx.2.1 hdg ht (fun q => kt q H locs ls hB h) (fun q => kf q H locs ls hB h)
theorem gj_icmp_neN (cx : CallFix p m c cc nL s args Ts own) {a d : Nat} {off : Int} {tgt : Nat} (hdg : decode cc pc = .ok (.if_icmp .ne off, 3)) (ht : (pc : Int) + off = (tgt : Int)) (ha : a < 2 ^ 31) (hd : d < 2 ^ 31) (kt : a ≠ d → Gj p l e R s m args below meth c nL B cells slots Q tgt lo st w) (kf : a = d → Gj p l e R s m args below meth c nL B cells slots Q (pc + 3) lo st w) : Gj p l e R s m args below meth c nL B cells slots Q pc lo (.int (nI d) :: .int (nI a) :: st) w :=
  gj_icmp_ne cx hdg ht (fun q => kt (fun z => q ((nI_eq ha hd).mpr z))) (fun q => kf ((nI_eq ha hd).mp q))
theorem gj_if_neN (cx : CallFix p m c cc nL s args Ts own) {a : Nat} {off : Int} {tgt : Nat} (hdg : decode cc pc = .ok (.ifCond .ne off, 3)) (ht : (pc : Int) + off = (tgt : Int)) (ha : a < 2 ^ 31) (kt : a ≠ 0 → Gj p l e R s m args below meth c nL B cells slots Q tgt lo st w) (kf : a = 0 → Gj p l e R s m args below meth c nL B cells slots Q (pc + 3) lo st w) : Gj p l e R s m args below meth c nL B cells slots Q pc lo (.int (nI a) :: st) w :=
  gj_if_ne cx hdg ht (fun q => kt (fun z => q (by rw [z]; rfl))) (fun q => kf ((nI_eq ha gj_z31).mp q))
theorem gj_lcmp_ne (cx : CallFix p m c cc nL s args Ts own) {x y : Int64} {off : Int} {tgt : Nat} (hdg : decode cc pc = .ok (.lcmp, 1)) (hdg2 : decode cc (pc + 1) = .ok (.ifCond .ne off, 3)) (ht : ((pc + 1 : Nat) : Int) + off = (tgt : Int)) (kt : ¬ x = y → Gj p l e R s m args below meth c nL B cells slots Q tgt lo st w) (kf : x = y → Gj p l e R s m args below meth c nL B cells slots Q (pc + 4) lo st w) : Gj p l e R s m args below meth c nL B cells slots Q pc lo (.long y :: .long x :: st) w :=
  fun H locs ls hB h => W.lcmp cx.1 cx.2.1 hdg ((gj_if_ne cx hdg2 ht (fun q => kt (fun z => q ((lg_cmp_eq x y).mpr z))) (fun q => kf ((lg_cmp_eq x y).mp q)) : Gj p l e R s m args below meth c nL B cells slots Q (pc + 1) lo (.int (lg_cmp x y) :: st) w) H locs ls hB h)
theorem gj_if_lt (cx : CallFix p m c cc nL s args Ts own) {x : Int32} {off : Int} {tgt : Nat} (hdg : decode cc pc = .ok (.ifCond .lt off, 3)) (ht : (pc : Int) + off = (tgt : Int)) (kt : x < 0 → Gj p l e R s m args below meth c nL B cells slots Q tgt lo st w) (kf : ¬ x < 0 → Gj p l e R s m args below meth c nL B cells slots Q (pc + 3) lo st w) : Gj p l e R s m args below meth c nL B cells slots Q pc lo (.int x :: st) w :=
  fun H locs ls hB h => lv_if_lt cx.1 cx.2.1 hdg ht (fun q => kt q H locs ls hB h) (fun q => kf q H locs ls hB h)
theorem gj_icmp_lt (cx : CallFix p m c cc nL s args Ts own) {x y : Int32} {off : Int} {tgt : Nat} (hdg : decode cc pc = .ok (.if_icmp .lt off, 3)) (ht : (pc : Int) + off = (tgt : Int)) (kt : x < y → Gj p l e R s m args below meth c nL B cells slots Q tgt lo st w) (kf : ¬ x < y → Gj p l e R s m args below meth c nL B cells slots Q (pc + 3) lo st w) : Gj p l e R s m args below meth c nL B cells slots Q pc lo (.int y :: .int x :: st) w :=
  fun H locs ls hB h => lv_icmp_lt cx.1 cx.2.1 hdg ht (fun q => kt q H locs ls hB h) (fun q => kf q H locs ls hB h)
theorem gj_icmp_ltN (cx : CallFix p m c cc nL s args Ts own) {a d : Nat} {off : Int} {tgt : Nat} (hdg : decode cc pc = .ok (.if_icmp .lt off, 3)) (ht : (pc : Int) + off = (tgt : Int)) (ha : a < 2 ^ 31) (hd : d < 2 ^ 31) (kt : a < d → Gj p l e R s m args below meth c nL B cells slots Q tgt lo st w) (kf : d ≤ a → Gj p l e R s m args below meth c nL B cells slots Q (pc + 3) lo st w) : Gj p l e R s m args below meth c nL B cells slots Q pc lo (.int (nI d) :: .int (nI a) :: st) w :=
  gj_icmp_lt cx hdg ht (fun q => kt ((nI_ltI ha hd).mp q)) (fun q => kf (by have := mt (nI_ltI ha hd).mpr q; omega))
theorem gj_if_ltN (cx : CallFix p m c cc nL s args Ts own) {a : Nat} {off : Int} {tgt : Nat} (hdg : decode cc pc = .ok (.ifCond .lt off, 3)) (ht : (pc : Int) + off = (tgt : Int)) (ha : a < 2 ^ 31) (kt : a < 0 → Gj p l e R s m args below meth c nL B cells slots Q tgt lo st w) (kf : 0 ≤ a → Gj p l e R s m args below meth c nL B cells slots Q (pc + 3) lo st w) : Gj p l e R s m args below meth c nL B cells slots Q pc lo (.int (nI a) :: st) w :=
  gj_if_lt cx hdg ht (fun q => kt ((nI_ltI ha gj_z31).mp q)) (fun q => kf (by have := mt (nI_ltI ha gj_z31).mpr q; omega))
theorem gj_lcmp_lt (cx : CallFix p m c cc nL s args Ts own) {x y : Int64} {off : Int} {tgt : Nat} (hdg : decode cc pc = .ok (.lcmp, 1)) (hdg2 : decode cc (pc + 1) = .ok (.ifCond .lt off, 3)) (ht : ((pc + 1 : Nat) : Int) + off = (tgt : Int)) (kt : x < y → Gj p l e R s m args below meth c nL B cells slots Q tgt lo st w) (kf : ¬ x < y → Gj p l e R s m args below meth c nL B cells slots Q (pc + 4) lo st w) : Gj p l e R s m args below meth c nL B cells slots Q pc lo (.long y :: .long x :: st) w :=
  fun H locs ls hB h => W.lcmp cx.1 cx.2.1 hdg ((gj_if_lt cx hdg2 ht (fun q => kt ((lg_cmp_lt x y).mp q)) (fun q => kf (fun z => q ((lg_cmp_lt x y).mpr z))) : Gj p l e R s m args below meth c nL B cells slots Q (pc + 1) lo (.int (lg_cmp x y) :: st) w) H locs ls hB h)
theorem gj_if_ge (cx : CallFix p m c cc nL s args Ts own) {x : Int32} {off : Int} {tgt : Nat} (hdg : decode cc pc = .ok (.ifCond .ge off, 3)) (ht : (pc : Int) + off = (tgt : Int)) (kt : 0 ≤ x → Gj p l e R s m args below meth c nL B cells slots Q tgt lo st w) (kf : ¬ 0 ≤ x → Gj p l e R s m args below meth c nL B cells slots Q (pc + 3) lo st w) : Gj p l e R s m args below meth c nL B cells slots Q pc lo (.int x :: st) w :=
  fun H locs ls hB h => lv_if_ge cx.1 cx.2.1 hdg ht (fun q => kt q H locs ls hB h) (fun q => kf q H locs ls hB h)
theorem gj_icmp_ge (cx : CallFix p m c cc nL s args Ts own) {x y : Int32} {off : Int} {tgt : Nat} (hdg : decode cc pc = .ok (.if_icmp .ge off, 3)) (ht : (pc : Int) + off = (tgt : Int)) (kt : y ≤ x → Gj p l e R s m args below meth c nL B cells slots Q tgt lo st w) (kf : ¬ y ≤ x → Gj p l e R s m args below meth c nL B cells slots Q (pc + 3) lo st w) : Gj p l e R s m args below meth c nL B cells slots Q pc lo (.int y :: .int x :: st) w :=
  fun H locs ls hB h => lv_icmp_ge cx.1 cx.2.1 hdg ht (fun q => kt q H locs ls hB h) (fun q => kf q H locs ls hB h)
theorem gj_icmp_geN (cx : CallFix p m c cc nL s args Ts own) {a d : Nat} {off : Int} {tgt : Nat} (hdg : decode cc pc = .ok (.if_icmp .ge off, 3)) (ht : (pc : Int) + off = (tgt : Int)) (ha : a < 2 ^ 31) (hd : d < 2 ^ 31) (kt : d ≤ a → Gj p l e R s m args below meth c nL B cells slots Q tgt lo st w) (kf : a < d → Gj p l e R s m args below meth c nL B cells slots Q (pc + 3) lo st w) : Gj p l e R s m args below meth c nL B cells slots Q pc lo (.int (nI d) :: .int (nI a) :: st) w :=
  gj_icmp_ge cx hdg ht (fun q => kt ((nI_leI hd ha).mp q)) (fun q => kf (by have := mt (nI_leI hd ha).mpr q; omega))
theorem gj_if_geN (cx : CallFix p m c cc nL s args Ts own) {a : Nat} {off : Int} {tgt : Nat} (hdg : decode cc pc = .ok (.ifCond .ge off, 3)) (ht : (pc : Int) + off = (tgt : Int)) (ha : a < 2 ^ 31) (kt : 0 ≤ a → Gj p l e R s m args below meth c nL B cells slots Q tgt lo st w) (kf : a < 0 → Gj p l e R s m args below meth c nL B cells slots Q (pc + 3) lo st w) : Gj p l e R s m args below meth c nL B cells slots Q pc lo (.int (nI a) :: st) w :=
  gj_if_ge cx hdg ht (fun q => kt ((nI_leI gj_z31 ha).mp q)) (fun q => kf (by have := mt (nI_leI gj_z31 ha).mpr q; omega))
theorem gj_lcmp_ge (cx : CallFix p m c cc nL s args Ts own) {x y : Int64} {off : Int} {tgt : Nat} (hdg : decode cc pc = .ok (.lcmp, 1)) (hdg2 : decode cc (pc + 1) = .ok (.ifCond .ge off, 3)) (ht : ((pc + 1 : Nat) : Int) + off = (tgt : Int)) (kt : y ≤ x → Gj p l e R s m args below meth c nL B cells slots Q tgt lo st w) (kf : ¬ y ≤ x → Gj p l e R s m args below meth c nL B cells slots Q (pc + 4) lo st w) : Gj p l e R s m args below meth c nL B cells slots Q pc lo (.long y :: .long x :: st) w :=
  fun H locs ls hB h => W.lcmp cx.1 cx.2.1 hdg ((gj_if_ge cx hdg2 ht (fun q => kt ((lg_cmp_ge x y).mp q)) (fun q => kf (fun z => q ((lg_cmp_ge x y).mpr z))) : Gj p l e R s m args below meth c nL B cells slots Q (pc + 1) lo (.int (lg_cmp x y) :: st) w) H locs ls hB h)
theorem gj_if_gt (cx : CallFix p m c cc nL s args Ts own) {x : Int32} {off : Int} {tgt : Nat} (hdg : decode cc pc = .ok (.ifCond .gt off, 3)) (ht : (pc : Int) + off = (tgt : Int)) (kt : 0 < x → Gj p l e R s m args below meth c nL B cells slots Q tgt lo st w) (kf : ¬ 0 < x → Gj p l e R s m args below meth c nL B cells slots Q (pc + 3) lo st w) : Gj p l e R s m args below meth c nL B cells slots Q pc lo (.int x :: st) w :=
  fun H locs ls hB h => lv_if_gt cx.1 cx.2.1 hdg ht (fun q => kt q H locs ls hB h) (fun q => kf q H locs ls hB h)
theorem gj_icmp_gt (cx : CallFix p m c cc nL s args Ts own) {x y : Int32} {off : Int} {tgt : Nat} (hdg : decode cc pc = .ok (.if_icmp .gt off, 3)) (ht : (pc : Int) + off = (tgt : Int)) (kt : y < x → Gj p l e R s m args below meth c nL B cells slots Q tgt lo st w) (kf : ¬ y < x → Gj p l e R s m args below meth c nL B cells slots Q (pc + 3) lo st w) : Gj p l e R s m args below meth c nL B cells slots Q pc lo (.int y :: .int x :: st) w :=
  fun H locs ls hB h => lv_icmp_gt cx.1 cx.2.1 hdg ht (fun q => kt q H locs ls hB h) (fun q => kf q H locs ls hB h)
theorem gj_icmp_gtN (cx : CallFix p m c cc nL s args Ts own) {a d : Nat} {off : Int} {tgt : Nat} (hdg : decode cc pc = .ok (.if_icmp .gt off, 3)) (ht : (pc : Int) + off = (tgt : Int)) (ha : a < 2 ^ 31) (hd : d < 2 ^ 31) (kt : d < a → Gj p l e R s m args below meth c nL B cells slots Q tgt lo st w) (kf : a ≤ d → Gj p l e R s m args below meth c nL B cells slots Q (pc + 3) lo st w) : Gj p l e R s m args below meth c nL B cells slots Q pc lo (.int (nI d) :: .int (nI a) :: st) w :=
  gj_icmp_gt cx hdg ht (fun q => kt ((nI_ltI hd ha).mp q)) (fun q => kf (by have := mt (nI_ltI hd ha).mpr q; omega))
theorem gj_if_gtN (cx : CallFix p m c cc nL s args Ts own) {a : Nat} {off : Int} {tgt : Nat} (hdg : decode cc pc = .ok (.ifCond .gt off, 3)) (ht : (pc : Int) + off = (tgt : Int)) (ha : a < 2 ^ 31) (kt : 0 < a → Gj p l e R s m args below meth c nL B cells slots Q tgt lo st w) (kf : a ≤ 0 → Gj p l e R s m args below meth c nL B cells slots Q (pc + 3) lo st w) : Gj p l e R s m args below meth c nL B cells slots Q pc lo (.int (nI a) :: st) w :=
  gj_if_gt cx hdg ht (fun q => kt ((nI_ltI gj_z31 ha).mp q)) (fun q => kf (by have := mt (nI_ltI gj_z31 ha).mpr q; omega))
theorem gj_lcmp_gt (cx : CallFix p m c cc nL s args Ts own) {x y : Int64} {off : Int} {tgt : Nat} (hdg : decode cc pc = .ok (.lcmp, 1)) (hdg2 : decode cc (pc + 1) = .ok (.ifCond .gt off, 3)) (ht : ((pc + 1 : Nat) : Int) + off = (tgt : Int)) (kt : y < x → Gj p l e R s m args below meth c nL B cells slots Q tgt lo st w) (kf : ¬ y < x → Gj p l e R s m args below meth c nL B cells slots Q (pc + 4) lo st w) : Gj p l e R s m args below meth c nL B cells slots Q pc lo (.long y :: .long x :: st) w :=
  fun H locs ls hB h => W.lcmp cx.1 cx.2.1 hdg ((gj_if_gt cx hdg2 ht (fun q => kt ((lg_cmp_gt x y).mp q)) (fun q => kf (fun z => q ((lg_cmp_gt x y).mpr z))) : Gj p l e R s m args below meth c nL B cells slots Q (pc + 1) lo (.int (lg_cmp x y) :: st) w) H locs ls hB h)
theorem gj_if_le (cx : CallFix p m c cc nL s args Ts own) {x : Int32} {off : Int} {tgt : Nat} (hdg : decode cc pc = .ok (.ifCond .le off, 3)) (ht : (pc : Int) + off = (tgt : Int)) (kt : x ≤ 0 → Gj p l e R s m args below meth c nL B cells slots Q tgt lo st w) (kf : ¬ x ≤ 0 → Gj p l e R s m args below meth c nL B cells slots Q (pc + 3) lo st w) : Gj p l e R s m args below meth c nL B cells slots Q pc lo (.int x :: st) w :=
  fun H locs ls hB h => lv_if_le cx.1 cx.2.1 hdg ht (fun q => kt q H locs ls hB h) (fun q => kf q H locs ls hB h)
theorem gj_icmp_le (cx : CallFix p m c cc nL s args Ts own) {x y : Int32} {off : Int} {tgt : Nat} (hdg : decode cc pc = .ok (.if_icmp .le off, 3)) (ht : (pc : Int) + off = (tgt : Int)) (kt : x ≤ y → Gj p l e R s m args below meth c nL B cells slots Q tgt lo st w) (kf : ¬ x ≤ y → Gj p l e R s m args below meth c nL B cells slots Q (pc + 3) lo st w) : Gj p l e R s m args below meth c nL B cells slots Q pc lo (.int y :: .int x :: st) w :=
  fun H locs ls hB h => lv_icmp_le cx.1 cx.2.1 hdg ht (fun q => kt q H locs ls hB h) (fun q => kf q H locs ls hB h)
theorem gj_icmp_leN (cx : CallFix p m c cc nL s args Ts own) {a d : Nat} {off : Int} {tgt : Nat} (hdg : decode cc pc = .ok (.if_icmp .le off, 3)) (ht : (pc : Int) + off = (tgt : Int)) (ha : a < 2 ^ 31) (hd : d < 2 ^ 31) (kt : a ≤ d → Gj p l e R s m args below meth c nL B cells slots Q tgt lo st w) (kf : d < a → Gj p l e R s m args below meth c nL B cells slots Q (pc + 3) lo st w) : Gj p l e R s m args below meth c nL B cells slots Q pc lo (.int (nI d) :: .int (nI a) :: st) w :=
  gj_icmp_le cx hdg ht (fun q => kt ((nI_leI ha hd).mp q)) (fun q => kf (by have := mt (nI_leI ha hd).mpr q; omega))
theorem gj_if_leN (cx : CallFix p m c cc nL s args Ts own) {a : Nat} {off : Int} {tgt : Nat} (hdg : decode cc pc = .ok (.ifCond .le off, 3)) (ht : (pc : Int) + off = (tgt : Int)) (ha : a < 2 ^ 31) (kt : a ≤ 0 → Gj p l e R s m args below meth c nL B cells slots Q tgt lo st w) (kf : 0 < a → Gj p l e R s m args below meth c nL B cells slots Q (pc + 3) lo st w) : Gj p l e R s m args below meth c nL B cells slots Q pc lo (.int (nI a) :: st) w :=
  gj_if_le cx hdg ht (fun q => kt ((nI_leI ha gj_z31).mp q)) (fun q => kf (by have := mt (nI_leI ha gj_z31).mpr q; omega))
theorem gj_lcmp_le (cx : CallFix p m c cc nL s args Ts own) {x y : Int64} {off : Int} {tgt : Nat} (hdg : decode cc pc = .ok (.lcmp, 1)) (hdg2 : decode cc (pc + 1) = .ok (.ifCond .le off, 3)) (ht : ((pc + 1 : Nat) : Int) + off = (tgt : Int)) (kt : x ≤ y → Gj p l e R s m args below meth c nL B cells slots Q tgt lo st w) (kf : ¬ x ≤ y → Gj p l e R s m args below meth c nL B cells slots Q (pc + 4) lo st w) : Gj p l e R s m args below meth c nL B cells slots Q pc lo (.long y :: .long x :: st) w :=
  fun H locs ls hB h => W.lcmp cx.1 cx.2.1 hdg ((gj_if_le cx hdg2 ht (fun q => kt ((lg_cmp_le x y).mp q)) (fun q => kf (fun z => q ((lg_cmp_le x y).mpr z))) : Gj p l e R s m args below meth c nL B cells slots Q (pc + 1) lo (.int (lg_cmp x y) :: st) w) H locs ls hB h)
theorem gj_if_eqB (cx : CallFix p m c cc nL s args Ts own) {b : Bool} {off : Int} {tgt : Nat} (hdg : decode cc pc = .ok (.ifCond .eq off, 3)) (ht : (pc : Int) + off = (tgt : Int)) (kt : b = false → Gj p l e R s m args below meth c nL B cells slots Q tgt lo st w) (kf : b = true → Gj p l e R s m args below meth c nL B cells slots Q (pc + 3) lo st w) : Gj p l e R s m args below meth c nL B cells slots Q pc lo (.int (bI b) :: st) w :=
  gj_if_eq cx hdg ht (fun q => kt (bI_0 q)) (fun q => kf (bI_1 q))
theorem gj_if_neB (cx : CallFix p m c cc nL s args Ts own) {b : Bool} {off : Int} {tgt : Nat} (hdg : decode cc pc = .ok (.ifCond .ne off, 3)) (ht : (pc : Int) + off = (tgt : Int)) (kt : b = true → Gj p l e R s m args below meth c nL B cells slots Q tgt lo st w) (kf : b = false → Gj p l e R s m args below meth c nL B cells slots Q (pc + 3) lo st w) : Gj p l e R s m args below meth c nL B cells slots Q pc lo (.int (bI b) :: st) w :=
  gj_if_ne cx hdg ht (fun q => kt (bI_1 q)) (fun q => kf (bI_0 q))
end GJ
section GJW
variable {p : Program} {l : Launch} {e : Env} {R : Room} {s : State} {m : MethodId} {args : Array Value} {below : List Frame} {meth : Method} {c : Code} {cells slots : Nat} {Q : State → Prop}
variable {nL : Nat} {cc : ByteArray} {Ts : List Cond} {own : String} {pc : Nat} {lo : List (Nat × Value)} {st : List Value}
variable {ω : Type} {B : ω → Heap → List Loc → Prop} {w : ω}
variable {D : va_G} {cl : List vw_C} {tys : List (ClassId × FieldType)} {ws : va_W} {a : Nat}
theorem gj_get (cx : CallFix p m c cc nL s args Ts own) (hK : va_K D cl tys s) {C : String} {T : u_T} {N ci index : Nat} {fs : List Value} {v : Value} (hP : ∀ H locs, B w H locs → va_P D cl ws H) (hin : ∀ z ∈ u_ws C T N, z ∈ Ts) (hdg : decode cc pc = .ok (.getfield index, 3)) (q0 : Nat) (he : ws[q0]? = some (a, .inr (ci, fs))) (hc : cl[ci]? = some (C, T, N)) (k : Nat) (hk : k < N) (hlink : Cond.fieldLink own index (T k).1 (T k).2.1 (T k).2.2.1 ∈ Ts) (hv : fs[k]? = some v) (kk : Gj p l e R s m args below meth c nL B cells slots Q (pc + 3) lo (v :: st) w) : Gj p l e R s m args below meth c nL B cells slots Q pc lo (.ref a :: st) w :=
  fun H locs ls hB h => va_get cx.1 cx.2.1 cx.2.2.2.2 hin cx.2.2.2.1 hK (hP H locs hB) q0 he hc k hk (cx.2.2.2.2 _ hlink) (fun _ h9 => h9) hv hdg (kk H locs ls hB h)
theorem gj_iald (cx : CallFix p m c cc nL s args Ts own) (hK : va_K D cl tys s) {cA : ClassId} {n i : Nat} {f : Nat → Int32} (hP : ∀ H locs, B w H locs → va_P D cl ws H) (hdg : decode cc pc = .ok (.iaload, 1)) (q0 t0 : Nat) (ha : ws[q0]? = some (a, .inl (cA, n, .inl f))) (ht : tys[t0]? = some (cA, .int)) (hi : i < n) (hn : n < 2 ^ 31) (kk : Gj p l e R s m args below meth c nL B cells slots Q (pc + 1) lo (.int (f i) :: st) w) : Gj p l e R s m args below meth c nL B cells slots Q pc lo (.int (nI i) :: .ref a :: st) w := by
  intro H locs ls hB h
  refine va_iald cx.1 cx.2.1 hK (hP H locs hB) q0 t0 ha ht (vp_in_nI hi hn) hdg ?_
  rw [nI_clamp (by omega)]
  exact kk H locs ls hB h
theorem gj_lald (cx : CallFix p m c cc nL s args Ts own) (hK : va_K D cl tys s) {cA : ClassId} {n i : Nat} {f : Nat → Int64} (hP : ∀ H locs, B w H locs → va_P D cl ws H) (hdg : decode cc pc = .ok (.laload, 1)) (q0 t0 : Nat) (ha : ws[q0]? = some (a, .inl (cA, n, .inr (.inl f)))) (ht : tys[t0]? = some (cA, .long)) (hi : i < n) (hn : n < 2 ^ 31) (kk : Gj p l e R s m args below meth c nL B cells slots Q (pc + 1) lo (.long (f i) :: st) w) : Gj p l e R s m args below meth c nL B cells slots Q pc lo (.int (nI i) :: .ref a :: st) w := by
  intro H locs ls hB h
  refine va_lald cx.1 cx.2.1 hK (hP H locs hB) q0 t0 ha ht (vp_in_nI hi hn) hdg ?_
  rw [nI_clamp (by omega)]
  exact kk H locs ls hB h
theorem gj_ialdN (cx : CallFix p m c cc nL s args Ts own) (hK : va_K D cl tys s) {cA : ClassId} {n i : Nat} {f : Nat → Nat} (hP : ∀ H locs, B w H locs → va_P D cl ws H) (hdg : decode cc pc = .ok (.iaload, 1)) (q0 t0 : Nat) (ha : ws[q0]? = some (a, .inl (cA, n, .inl (fun j => nI (f j))))) (ht : tys[t0]? = some (cA, .int)) (hi : i < n) (hn : n < 2 ^ 31) (kk : Gj p l e R s m args below meth c nL B cells slots Q (pc + 1) lo (.int (nI (f i)) :: st) w) : Gj p l e R s m args below meth c nL B cells slots Q pc lo (.int (nI i) :: .ref a :: st) w :=
  gj_iald cx hK hP hdg q0 t0 ha ht hi hn kk
theorem gj_aald (cx : CallFix p m c cc nL s args Ts own) (hK : va_K D cl tys s) {cA : ClassId} {C : String} {n i : Nat} {f : Nat → Option Nat} {x : Nat} (hP : ∀ H locs, B w H locs → va_P D cl ws H) (hdg : decode cc pc = .ok (.aaload, 1)) (q0 t0 : Nat) (ha : ws[q0]? = some (a, .inl (cA, n, .inr (.inr (.inr (.inr f)))))) (ht : tys[t0]? = some (cA, .object C)) (hi : i < n) (hn : n < 2 ^ 31) (hx : f i = some x) (kk : Gj p l e R s m args below meth c nL B cells slots Q (pc + 1) lo (.ref x :: st) w) : Gj p l e R s m args below meth c nL B cells slots Q pc lo (.int (nI i) :: .ref a :: st) w := by
  intro H locs ls hB h
  refine va_aldq cx.1 cx.2.1 hK (hP H locs hB) q0 t0 ha ht (vp_in_nI hi hn) hdg ?_
  rw [nI_clamp (by omega), hx]
  exact kk H locs ls hB h
end GJW
section GJS
variable {p : Program} {l : Launch} {e : Env} {R : Room} {s : State} {m : MethodId} {args : Array Value} {below : List Frame} {meth : Method} {c : Code} {cells slots : Nat} {Q : State → Prop}
variable {nL : Nat} {cc : ByteArray} {Ts : List Cond} {own : String} {pc : Nat} {lo : List (Nat × Value)} {st : List Value}
variable {D : va_G} {cl : List vw_C} {tys : List (ClassId × FieldType)} {ws ws' : va_W} {a : Nat} {A : Nat → Prop} {H0 : Heap}
theorem gj_put (cx : CallFix p m c cc nL s args Ts own) (hK : va_K D cl tys s) {C : String} {T : u_T} {N ci index : Nat} {fs : List Value} {ty : FieldType} {v : Value} (hin : ∀ z ∈ u_ws C T N, z ∈ Ts) (ty0 : Nat → FieldType) (hty : ∀ k, k < N → parseFieldDescriptor (T k).2.2.1 = some (ty0 k)) (hnm : ∀ a, a < N → ∀ b, b < N → a ≠ b → (T a).2.1 ≠ (T b).2.1) (hdg : decode cc pc = .ok (.putfield index, 3)) (q0 : Nat) (he : ws[q0]? = some (a, .inr (ci, fs))) (hc : cl[ci]? = some (C, T, N)) (k : Nat) (hk : k < N) (hlink : Cond.fieldLink own index (T k).1 (T k).2.1 (T k).2.2.1 ∈ Ts) (hfin : (T k).2.2.2 = false) (hd : parseFieldDescriptor (T k).2.2.1 = some ty) (hnr : narrow ty v = v) (hfit : fits ty v = true) (hl : k < fs.length) (hws : ws.set q0 (a, .inr (ci, fs.set k v)) = ws') (kk : Gj p l e R s m args below meth c nL (Bw D cl A H0) cells slots Q (pc + 3) lo st ws') : Gj p l e R s m args below meth c nL (Bw D cl A H0) cells slots Q pc lo (v :: .ref a :: st) ws :=
  fun H locs ls hB h => va_put cx.1 cx.2.1 cx.2.2.2.2 hin ty0 hty hnm cx.2.2.2.1 hK hB.1 hB.2.1 hB.2.2 q0 he hc k hk (cx.2.2.2.2 _ hlink) (fun _ h9 => h9) hfin hd hnr hfit hl hdg (fun H1 locs1 hP hD hS => kk H1 locs1 ls (hws ▸ ⟨hP, hD, hS⟩) h)
theorem gj_iast (cx : CallFix p m c cc nL s args Ts own) (hK : va_K D cl tys s) {cA : ClassId} {n i : Nat} {f : Nat → Int32} {x : Int32} (hdg : decode cc pc = .ok (.iastore, 1)) (q0 t0 : Nat) (ha : ws[q0]? = some (a, .inl (cA, n, .inl f))) (ht : tys[t0]? = some (cA, .int)) (hi : i < n) (hn : n < 2 ^ 31) (hws : ws.set q0 (a, .inl (cA, n, .inl (upd f i x))) = ws') (kk : Gj p l e R s m args below meth c nL (Bw D cl A H0) cells slots Q (pc + 1) lo st ws') : Gj p l e R s m args below meth c nL (Bw D cl A H0) cells slots Q pc lo (.int x :: .int (nI i) :: .ref a :: st) ws := by
  intro H locs ls hB h
  refine va_iast cx.1 cx.2.1 hK hB.1 hB.2.1 hB.2.2 q0 t0 ha ht (vp_in_nI hi hn) hdg (fun H1 locs1 hP hD hS => ?_)
  rw [nI_clamp (by omega)] at hP hD
  exact kk H1 locs1 ls (hws ▸ ⟨hP, hD, hS⟩) h
theorem gj_iastN (cx : CallFix p m c cc nL s args Ts own) (hK : va_K D cl tys s) {cA : ClassId} {n i x : Nat} {f : Nat → Nat} (hdg : decode cc pc = .ok (.iastore, 1)) (q0 t0 : Nat) (ha : ws[q0]? = some (a, .inl (cA, n, .inl (fun j => nI (f j))))) (ht : tys[t0]? = some (cA, .int)) (hi : i < n) (hn : n < 2 ^ 31) (hws : ws.set q0 (a, .inl (cA, n, .inl (fun j => nI (va_up f i x j)))) = ws') (kk : Gj p l e R s m args below meth c nL (Bw D cl A H0) cells slots Q (pc + 1) lo st ws') : Gj p l e R s m args below meth c nL (Bw D cl A H0) cells slots Q pc lo (.int (nI x) :: .int (nI i) :: .ref a :: st) ws :=
  gj_iast cx hK hdg q0 t0 ha ht hi hn (by rw [gj_upd]; exact hws) kk
theorem gj_last (cx : CallFix p m c cc nL s args Ts own) (hK : va_K D cl tys s) {cA : ClassId} {n i : Nat} {f : Nat → Int64} {x : Int64} (hdg : decode cc pc = .ok (.lastore, 1)) (q0 t0 : Nat) (ha : ws[q0]? = some (a, .inl (cA, n, .inr (.inl f)))) (ht : tys[t0]? = some (cA, .long)) (hi : i < n) (hn : n < 2 ^ 31) (hws : ws.set q0 (a, .inl (cA, n, .inr (.inl (va_up f i x)))) = ws') (kk : Gj p l e R s m args below meth c nL (Bw D cl A H0) cells slots Q (pc + 1) lo st ws') : Gj p l e R s m args below meth c nL (Bw D cl A H0) cells slots Q pc lo (.long x :: .int (nI i) :: .ref a :: st) ws := by
  intro H locs ls hB h
  refine va_last cx.1 cx.2.1 hK hB.1 hB.2.1 hB.2.2 q0 t0 ha ht (vp_in_nI hi hn) hdg (fun H1 locs1 hP hD hS => ?_)
  rw [nI_clamp (by omega)] at hP hD
  exact kk H1 locs1 ls (hws ▸ ⟨hP, hD, hS⟩) h
end GJS
/-- a reader's start, a writer's start and end -/
def gj_CR (D : va_G) (cl : List vw_C) (tys : List (ClassId × FieldType)) (ws : va_W) (av : List Value) : Array Value → State → Prop := va_Pc av (fun U => va_P D cl ws U.heap ∧ va_K D cl tys U)
def gj_CW (D : va_G) (cl : List vw_C) (tys : List (ClassId × FieldType)) (ws : va_W) (sz : Nat) (av : List Value) : Array Value → State → Prop := va_Pc av (fun U => U.heap.size = sz ∧ va_P D cl ws U.heap ∧ va_K D cl tys U ∧ va_D (fun _ => True) ws)
def gj_E (D : va_G) (cl : List vw_C) (ws ws' : va_W) (sz : Nat) : Unit → State → Prop := fun _ t => va_P D cl ws' t.heap ∧ va_D (va_A ws sz) ws'
abbrev MRi (l : Launch) (y : MethodName) (wy : List Cond) (rm : Room) (D : va_G) (cl : List vw_C) (tys : List (ClassId × FieldType)) (ws : va_W) (av : List Value) (v : Int32) : Prop := Met l y wy rm (gj_CR D cl tys ws av) (vp_Si (fun r => r = v)) 0 0 (fun _ => False)
abbrev MRl (l : Launch) (y : MethodName) (wy : List Cond) (rm : Room) (D : va_G) (cl : List vw_C) (tys : List (ClassId × FieldType)) (ws : va_W) (av : List Value) (v : Int64) : Prop := Met l y wy rm (gj_CR D cl tys ws av) (vp_Sl (fun r => r = v)) 0 0 (fun _ => False)
abbrev MWi (l : Launch) (y : MethodName) (wy : List Cond) (rm : Room) (D : va_G) (cl : List vw_C) (tys : List (ClassId × FieldType)) (ws ws' : va_W) (sz : Nat) (av : List Value) (v : Int32) : Prop := Met l y wy rm (gj_CW D cl tys ws sz av) (va_Qi (fun r (_ : Unit) => r = v) (gj_E D cl ws ws' sz) (va_A ws sz)) 0 0 (va_A ws sz)
abbrev MWv (l : Launch) (y : MethodName) (wy : List Cond) (rm : Room) (D : va_G) (cl : List vw_C) (tys : List (ClassId × FieldType)) (ws ws' : va_W) (sz : Nat) (av : List Value) : Prop := Met l y wy rm (gj_CW D cl tys ws sz av) (va_Qv (fun (_ : Unit) => True) (gj_E D cl ws ws' sz) (va_A ws sz)) 0 0 (va_A ws sz)
theorem gj_enterR {l : Launch} {y : MethodName} {wy wy' : List Cond} {rm : Room} {D : va_G} {cl : List vw_C} {tys : List (ClassId × FieldType)} {ws : va_W} {av : List Value} {Qc : Array Value → State → Outcome → State → Prop} {mc ms : Nat} {free : Addr → Prop} {cc : ByteArray} {maxL : Nat} {ret : Option FieldType} {own : String} {lo : List (Nat × Value)} (hy : plainName y.cls = true) (hw : wy = Cond.code y cc maxL ret :: wy') (hlen : (lg_sl av).length ≤ maxL) (hown : y.cls = own) (hlo : lv_args 0 av = lo)
    (body : ∀ p e s m below meth c, CallFix p m c cc maxL s av.toArray wy own → meth.sig.returnType = ret → meth.locks = false → va_K D cl tys s → Gj p l e rm s m av.toArray below meth c maxL (Br D cl s.heap) 0 0 (MQ below Qc av.toArray s mc ms free) 0 lo [] ws) : Met l y wy rm (gj_CR D cl tys ws av) Qc mc ms free := by
  refine Met.ofW (cc := cc) (maxL := maxL) (ret := ret) hy hw ?_
  intro p e s m args below meth c s₁ B hml hv
  obtain ⟨rfl, hP, hK⟩ := hv
  have hl := lv_entry av (n := maxL) hlen
  rw [lg_entry_eq]
  subst hown
  exact body p e s m below meth c ⟨B.exec, B.bytes, hml, findClass_of_methodNamed B.named, atoms_spec (ws := wy) B.pre⟩ B.returns B.notSynchronized hK s.heap [] _ ⟨rfl, rfl, hP⟩ (hlo ▸ hl)
theorem gj_enterW {l : Launch} {y : MethodName} {wy wy' : List Cond} {rm : Room} {D : va_G} {cl : List vw_C} {tys : List (ClassId × FieldType)} {ws : va_W} {av : List Value} {Qc : Array Value → State → Outcome → State → Prop} {mc ms sz : Nat} {free : Addr → Prop} {cc : ByteArray} {maxL : Nat} {ret : Option FieldType} {own : String} {lo : List (Nat × Value)} (hy : plainName y.cls = true) (hw : wy = Cond.code y cc maxL ret :: wy') (hlen : (lg_sl av).length ≤ maxL) (hown : y.cls = own) (hlo : lv_args 0 av = lo)
    (body : ∀ p e s m below meth c, CallFix p m c cc maxL s av.toArray wy own → meth.sig.returnType = ret → meth.locks = false → va_K D cl tys s → s.heap.size = sz → Gj p l e rm s m av.toArray below meth c maxL (Bw D cl (va_A ws sz) s.heap) 0 0 (MQ below Qc av.toArray s mc ms free) 0 lo [] ws) : Met l y wy rm (gj_CW D cl tys ws sz av) Qc mc ms free := by
  refine Met.ofW (cc := cc) (maxL := maxL) (ret := ret) hy hw ?_
  intro p e s m args below meth c s₁ B hml hv
  obtain ⟨rfl, hsz, hP, hK, hD⟩ := hv
  have hl := lv_entry av (n := maxL) hlen
  rw [lg_entry_eq]
  subst hown
  exact body p e s m below meth c ⟨B.exec, B.bytes, hml, findClass_of_methodNamed B.named, atoms_spec (ws := wy) B.pre⟩ B.returns B.notSynchronized hK hsz s.heap [] _ ⟨hP, hD.self, va_S.rf⟩ (hlo ▸ hl)
section GJR
variable {p : Program} {l : Launch} {e : Env} {R : Room} {s : State} {m : MethodId} {args : Array Value} {below : List Frame} {meth : Method} {c : Code} {cells slots : Nat} {Q : State → Prop}
variable {nL : Nat} {cc : ByteArray} {Ts : List Cond} {own : String} {pc : Nat} {lo : List (Nat × Value)} {st : List Value}
variable {D : va_G} {cl : List vw_C} {tys : List (ClassId × FieldType)} {ws ws' ws0 : va_W} {A : Nat → Prop} {sz : Nat}
theorem gj_iretR (cx : CallFix p m c cc nL s args Ts own) (hr : meth.sig.returnType = some .int) (hlk : meth.locks = false) {x : Int32} {post : Int32 → Prop} (hdg : decode cc pc = .ok (.ireturn, 1)) (hp : post x) : Gj p l e R s m args below meth c nL (Br D cl s.heap) 0 0 (MQ below (vp_Si post) args s 0 0 (fun _ => False)) pc lo [.int x] ws := by
  intro H locs ls hB h
  obtain ⟨rfl, rfl, hP⟩ := hB
  exact W.iret cx.1 cx.2.1 hr (fun t ht _ => ⟨x, rfl, hp, ht⟩) (fun q z => by cases z) hdg hlk
theorem gj_zretR (cx : CallFix p m c cc nL s args Ts own) (hr : meth.sig.returnType = some .boolean) (hlk : meth.locks = false) {x : Int32} {post : Int32 → Prop} (hdg : decode cc pc = .ok (.ireturn, 1)) (hn : narrow .boolean (.int x) = .int x) (hp : post x) : Gj p l e R s m args below meth c nL (Br D cl s.heap) 0 0 (MQ below (vp_Si post) args s 0 0 (fun _ => False)) pc lo [.int x] ws := by
  intro H locs ls hB h
  obtain ⟨rfl, rfl, hP⟩ := hB
  exact W.zret cx.1 cx.2.1 hr hn (fun t ht _ => ⟨x, rfl, hp, ht⟩) (fun q z => by cases z) hdg hlk
theorem gj_lretR (cx : CallFix p m c cc nL s args Ts own) (hr : meth.sig.returnType = some .long) (hlk : meth.locks = false) {x : Int64} {post : Int64 → Prop} (hdg : decode cc pc = .ok (.lreturn, 1)) (hp : post x) : Gj p l e R s m args below meth c nL (Br D cl s.heap) 0 0 (MQ below (vp_Sl post) args s 0 0 (fun _ => False)) pc lo [.long x] ws := by
  intro H locs ls hB h
  obtain ⟨rfl, rfl, hP⟩ := hB
  exact W.lret cx.1 cx.2.1 hr (fun t ht _ => ⟨x, rfl, hp, ht⟩) (fun q z => by cases z) hdg hlk
theorem gj_iretW (cx : CallFix p m c cc nL s args Ts own) (hr : meth.sig.returnType = some .int) (hlk : meth.locks = false) {x v : Int32} (hdg : decode cc pc = .ok (.ireturn, 1)) (hx : x = v) (hws : ws' = ws) : Gj p l e R s m args below meth c nL (Bw D cl (va_A ws0 sz) s.heap) 0 0 (MQ below (va_Qi (fun r (_ : Unit) => r = v) (gj_E D cl ws0 ws sz) (va_A ws0 sz)) args s 0 0 (va_A ws0 sz)) pc lo [.int x] ws' := by
  subst hws
  intro H locs ls hB h
  exact W.iret cx.1 cx.2.1 hr (fun t ht _ => ⟨⟨x, (), rfl, hx, by rw [ht]; exact hB.1, hB.2.1⟩, hB.2.2.F ht⟩) hB.2.2.2.2 hdg hlk
theorem gj_zretW (cx : CallFix p m c cc nL s args Ts own) (hr : meth.sig.returnType = some .boolean) (hlk : meth.locks = false) {x v : Int32} (hdg : decode cc pc = .ok (.ireturn, 1)) (hn : narrow .boolean (.int x) = .int x) (hx : x = v) (hws : ws' = ws) : Gj p l e R s m args below meth c nL (Bw D cl (va_A ws0 sz) s.heap) 0 0 (MQ below (va_Qi (fun r (_ : Unit) => r = v) (gj_E D cl ws0 ws sz) (va_A ws0 sz)) args s 0 0 (va_A ws0 sz)) pc lo [.int x] ws' := by
  subst hws
  intro H locs ls hB h
  exact W.zret cx.1 cx.2.1 hr hn (fun t ht _ => ⟨⟨x, (), rfl, hx, by rw [ht]; exact hB.1, hB.2.1⟩, hB.2.2.F ht⟩) hB.2.2.2.2 hdg hlk
theorem gj_vretW (cx : CallFix p m c cc nL s args Ts own) (hr : meth.sig.returnType = none) (hlk : meth.locks = false) (hdg : decode cc pc = .ok (.return_, 1)) (hws : ws' = ws) : Gj p l e R s m args below meth c nL (Bw D cl (va_A ws0 sz) s.heap) 0 0 (MQ below (va_Qv (fun (_ : Unit) => True) (gj_E D cl ws0 ws sz) (va_A ws0 sz)) args s 0 0 (va_A ws0 sz)) pc lo [] ws' := by
  subst hws
  intro H locs ls hB h
  exact W.vret cx.1 cx.2.1 hr (fun t ht _ => ⟨⟨(), rfl, trivial, by rw [ht]; exact hB.1, hB.2.1⟩, hB.2.2.F ht⟩) hB.2.2.2.2 hdg hlk
end GJR
section GJC
variable {p : Program} {l : Launch} {e : Env} {R : Room} {s : State} {m : MethodId} {args : Array Value} {below : List Frame} {meth : Method} {c : Code} {cells slots : Nat} {Q : State → Prop}
variable {nL : Nat} {cc : ByteArray} {Ts : List Cond} {own : String} {pc : Nat} {lo : List (Nat × Value)} {st : List Value}
variable {ω : Type} {B : ω → Heap → List Loc → Prop} {w : ω}
variable {D : va_G} {cl : List vw_C} {tys : List (ClassId × FieldType)} {wc : va_W} {y : MethodName} {wy : List Cond} {rm : Room} {bytes : ByteArray} {maxL n index : Nat} {ret : Option FieldType} {C : String} {b : Nat} {As rest : List Value}
theorem gj_callVRi (cx : CallFix p m c cc nL s args Ts own) (hK : va_K D cl tys s) {v : Int32} (hM : MRi l y wy rm D cl tys wc (.ref b :: As) v) (cw : CallW R s args own C index y bytes maxL ret wy rm 0 0 n) (hP : ∀ H locs, B w H locs → va_P D cl wc H) (q0 ci : Nat) {q : vw_C} {fs : List Value} (hq : cl[ci]? = some q) (he : wc[q0]? = some (b, .inr (ci, fs))) (hC : q.1 = C) (hn : As.length = n) (hst : st = As.reverse ++ .ref b :: rest) (hW : (rest.map fun v => v.category).sum ≤ 8) (hdg : decode cc pc = .ok (.invokevirtual index, 3)) (hcs : cells + 0 ≤ R.cells ∧ slots + 0 ≤ R.slots) (kk : Gj p l e R s m args below meth c nL B cells slots Q (pc + 3) lo (.int v :: rest) w) : Gj p l e R s m args below meth c nL B cells slots Q pc lo st w := by
  intro H locs ls hB h
  subst hC
  exact vp_callSi (rest := rest) (va_Run.run (va_runV (As := As) (rest := rest) cx hM cw ⟨(fun a U g mk q => ⟨q.1, q.2.1, va_K.moved (u := U) (U := U.calling g mk a) (Vm.Alike.refl U.vm) q.2.2⟩), va_recv hK (hP H locs hB) hq he, (fun U hU hW => ⟨rfl, by rw [hU]; exact hP H locs hB, va_K.moved hW.alike hK⟩)⟩ rfl hn h.1 hst (lv_room hW) hdg hcs)) (fun r hr => by subst hr; exact kk H locs ls hB h)
theorem gj_callSRi (cx : CallFix p m c cc nL s args Ts own) (hK : va_K D cl tys s) {v : Int32} (hM : MRi l y wy rm D cl tys wc As v) (cw : CallB R s args own index y bytes maxL ret wy rm 0 0 n ∧ (Cond.static y).before args s = true) (hP : ∀ H locs, B w H locs → va_P D cl wc H) (hn : As.length = n) (hst : st = As.reverse ++ rest) (hW : (rest.map fun v => v.category).sum ≤ 8) (hdg : decode cc pc = .ok (.invokestatic index, 3)) (hcs : cells + 0 ≤ R.cells ∧ slots + 0 ≤ R.slots) (kk : Gj p l e R s m args below meth c nL B cells slots Q (pc + 3) lo (.int v :: rest) w) : Gj p l e R s m args below meth c nL B cells slots Q pc lo st w := by
  intro H locs ls hB h
  exact vp_callSi (rest := rest) (va_Run.run (va_runS (As := As) (rest := rest) cx hM cw ⟨(fun a U g mk q => ⟨q.1, q.2.1, va_K.moved (u := U) (U := U.calling g mk a) (Vm.Alike.refl U.vm) q.2.2⟩), (fun U hU hW => ⟨rfl, by rw [hU]; exact hP H locs hB, va_K.moved hW.alike hK⟩)⟩ rfl hn h.1 hst (lv_room hW) hdg hcs)) (fun r hr => by subst hr; exact kk H locs ls hB h)
theorem gj_callVRl (cx : CallFix p m c cc nL s args Ts own) (hK : va_K D cl tys s) {v : Int64} (hM : MRl l y wy rm D cl tys wc (.ref b :: As) v) (cw : CallW R s args own C index y bytes maxL ret wy rm 0 0 n) (hP : ∀ H locs, B w H locs → va_P D cl wc H) (q0 ci : Nat) {q : vw_C} {fs : List Value} (hq : cl[ci]? = some q) (he : wc[q0]? = some (b, .inr (ci, fs))) (hC : q.1 = C) (hn : As.length = n) (hst : st = As.reverse ++ .ref b :: rest) (hW : (rest.map fun v => v.category).sum ≤ 8) (hdg : decode cc pc = .ok (.invokevirtual index, 3)) (hcs : cells + 0 ≤ R.cells ∧ slots + 0 ≤ R.slots) (kk : Gj p l e R s m args below meth c nL B cells slots Q (pc + 3) lo (.long v :: rest) w) : Gj p l e R s m args below meth c nL B cells slots Q pc lo st w := by
  intro H locs ls hB h
  subst hC
  exact vp_callSl (rest := rest) (va_Run.run (va_runV (As := As) (rest := rest) cx hM cw ⟨(fun a U g mk q => ⟨q.1, q.2.1, va_K.moved (u := U) (U := U.calling g mk a) (Vm.Alike.refl U.vm) q.2.2⟩), va_recv hK (hP H locs hB) hq he, (fun U hU hW => ⟨rfl, by rw [hU]; exact hP H locs hB, va_K.moved hW.alike hK⟩)⟩ rfl hn h.1 hst (lv_room hW) hdg hcs)) (fun r hr => by subst hr; exact kk H locs ls hB h)
theorem gj_callSRl (cx : CallFix p m c cc nL s args Ts own) (hK : va_K D cl tys s) {v : Int64} (hM : MRl l y wy rm D cl tys wc As v) (cw : CallB R s args own index y bytes maxL ret wy rm 0 0 n ∧ (Cond.static y).before args s = true) (hP : ∀ H locs, B w H locs → va_P D cl wc H) (hn : As.length = n) (hst : st = As.reverse ++ rest) (hW : (rest.map fun v => v.category).sum ≤ 8) (hdg : decode cc pc = .ok (.invokestatic index, 3)) (hcs : cells + 0 ≤ R.cells ∧ slots + 0 ≤ R.slots) (kk : Gj p l e R s m args below meth c nL B cells slots Q (pc + 3) lo (.long v :: rest) w) : Gj p l e R s m args below meth c nL B cells slots Q pc lo st w := by
  intro H locs ls hB h
  exact vp_callSl (rest := rest) (va_Run.run (va_runS (As := As) (rest := rest) cx hM cw ⟨(fun a U g mk q => ⟨q.1, q.2.1, va_K.moved (u := U) (U := U.calling g mk a) (Vm.Alike.refl U.vm) q.2.2⟩), (fun U hU hW => ⟨rfl, by rw [hU]; exact hP H locs hB, va_K.moved hW.alike hK⟩)⟩ rfl hn h.1 hst (lv_room hW) hdg hcs)) (fun r hr => by subst hr; exact kk H locs ls hB h)
theorem gj_P0 {D : va_G} {cl : List vw_C} {H : Heap} : va_P D cl [] H := fun k q hk => by simp at hk
end GJC
section GJD
variable {p : Program} {l : Launch} {e : Env} {R : Room} {s : State} {m : MethodId} {args : Array Value} {below : List Frame} {meth : Method} {c : Code} {cells slots : Nat} {Q : State → Prop}
variable {nL : Nat} {cc : ByteArray} {Ts : List Cond} {own : String} {pc : Nat} {lo : List (Nat × Value)} {st : List Value}
variable {D : va_G} {cl : List vw_C} {tys : List (ClassId × FieldType)} {ws ws' ws0 : va_W} {A : Nat → Prop} {sz : Nat}
variable {y : MethodName} {wy : List Cond} {rm : Room} {bytes : ByteArray} {maxL n index : Nat} {ret : Option FieldType} {C : String} {b : Nat} {As rest : List Value} {H0 : Heap} {wc wc' : va_W}
/-- the callee's world is a part wc of the caller's world ws; behind the call wc' stands for it, and ws' for the whole: by J -/
def gj_J (D : va_G) (cl : List vw_C) (A : Nat → Prop) (ws wc wc' ws' : va_W) : Prop := (∀ H, va_P D cl ws H → va_P D cl wc H) ∧ (va_D A ws → va_D A wc) ∧ ∀ (H H1 : Heap), va_P D cl ws H → va_D A ws → (∀ q : Nat, q < H.size → ¬ va_A wc H.size q → H1[q]? = H[q]?) → (∀ q, va_A wc H.size q → A q) → va_P D cl wc' H1 → va_D (va_A wc H.size) wc' → va_P D cl ws' H1 ∧ va_D A ws'
theorem gj_J.self {D : va_G} {cl : List vw_C} {A : Nat → Prop} {ws ws' : va_W} : gj_J D cl A ws ws ws' ws' :=
  ⟨fun _ h => h, fun h => h, fun H H1 _ _ _ hF hP hD => ⟨hP, hD.weaken (fun k q _ h => hF q.1 h)⟩⟩
theorem gj_AF {A : Nat → Prop} {wc : va_W} {H0 H : Heap} {locs : List Loc} (hDc : va_D A wc) (hS : va_S A H0 H locs) (hA : ∀ q, H0.size ≤ q → A q) : ∀ q, va_A wc H.size q → A q := by
  intro q h
  rcases h with ⟨k, e, h⟩ | h
  · exact hDc.2 k (q, e) h
  · exact hA q (Nat.le_trans hS.1 h)
theorem gj_callVWi (cx : CallFix p m c cc nL s args Ts own) (hK : va_K D cl tys s) (hA : ∀ q, H0.size ≤ q → A q) {v : Int32} (hM : ∀ sz, MWi l y wy rm D cl tys wc wc' sz (.ref b :: As) v) (cw : CallW R s args own C index y bytes maxL ret wy rm 0 0 n) (hJ : gj_J D cl A ws wc wc' ws') (q0 ci : Nat) {q : vw_C} {fs : List Value} (hq : cl[ci]? = some q) (he : wc[q0]? = some (b, .inr (ci, fs))) (hC : q.1 = C) (hn : As.length = n) (hst : st = As.reverse ++ .ref b :: rest) (hW : (rest.map fun v => v.category).sum ≤ 8) (hdg : decode cc pc = .ok (.invokevirtual index, 3)) (hcs : cells + 0 ≤ R.cells ∧ slots + 0 ≤ R.slots) (kk : Gj p l e R s m args below meth c nL (Bw D cl A H0) cells slots Q (pc + 3) lo (.int v :: rest) ws') : Gj p l e R s m args below meth c nL (Bw D cl A H0) cells slots Q pc lo st ws := by
  intro H locs ls hB h
  subst hC
  have hPc := hJ.1 H hB.1
  have hDc := hJ.2.1 hB.2.1
  have hF := gj_AF hDc hB.2.2 hA
  refine va_calli (rest := rest) (va_runV (As := As) (rest := rest) cx (hM H.size) cw ⟨(fun a U g mk q => ⟨q.1, q.2.1, q.2.2.1, va_K.moved (u := U) (U := U.calling g mk a) (Vm.Alike.refl U.vm) q.2.2.2.1, q.2.2.2.2⟩), va_recv hK hPc hq he, (fun U hU hW => ⟨rfl, by rw [hU], by rw [hU]; exact hPc, va_K.moved hW.alike hK, hDc.weaken (fun _ _ _ _ => trivial)⟩)⟩ rfl hn h.1 hst (lv_room hW) hdg hcs) hB.2.2 (fun q _ h => hF q h) hF (fun r u t H1 locs1 ht _ hr hE _ hk hS => ?_)
  subst hr
  obtain ⟨hP1, hD1⟩ := hE
  rw [ht] at hP1
  obtain ⟨hP2, hD2⟩ := hJ.2.2 H H1 hB.1 hB.2.1 hk hF hP1 hD1
  exact kk H1 locs1 ls ⟨hP2, hD2, hS⟩ h
theorem gj_callVWv (cx : CallFix p m c cc nL s args Ts own) (hK : va_K D cl tys s) (hA : ∀ q, H0.size ≤ q → A q) (hM : ∀ sz, MWv l y wy rm D cl tys wc wc' sz (.ref b :: As)) (cw : CallW R s args own C index y bytes maxL ret wy rm 0 0 n) (hJ : gj_J D cl A ws wc wc' ws') (q0 ci : Nat) {q : vw_C} {fs : List Value} (hq : cl[ci]? = some q) (he : wc[q0]? = some (b, .inr (ci, fs))) (hC : q.1 = C) (hn : As.length = n) (hst : st = As.reverse ++ .ref b :: rest) (hW : (rest.map fun v => v.category).sum ≤ 8) (hdg : decode cc pc = .ok (.invokevirtual index, 3)) (hcs : cells + 0 ≤ R.cells ∧ slots + 0 ≤ R.slots) (kk : Gj p l e R s m args below meth c nL (Bw D cl A H0) cells slots Q (pc + 3) lo rest ws') : Gj p l e R s m args below meth c nL (Bw D cl A H0) cells slots Q pc lo st ws := by
  intro H locs ls hB h
  subst hC
  have hPc := hJ.1 H hB.1
  have hDc := hJ.2.1 hB.2.1
  have hF := gj_AF hDc hB.2.2 hA
  refine va_callv (rest := rest) (va_runV (As := As) (rest := rest) cx (hM H.size) cw ⟨(fun a U g mk q => ⟨q.1, q.2.1, q.2.2.1, va_K.moved (u := U) (U := U.calling g mk a) (Vm.Alike.refl U.vm) q.2.2.2.1, q.2.2.2.2⟩), va_recv hK hPc hq he, (fun U hU hW => ⟨rfl, by rw [hU], by rw [hU]; exact hPc, va_K.moved hW.alike hK, hDc.weaken (fun _ _ _ _ => trivial)⟩)⟩ rfl hn h.1 hst (lv_room hW) hdg hcs) hB.2.2 (fun q _ h => hF q h) hF (fun u t H1 locs1 ht _ _ hE _ hk hS => ?_)
  obtain ⟨hP1, hD1⟩ := hE
  rw [ht] at hP1
  obtain ⟨hP2, hD2⟩ := hJ.2.2 H H1 hB.1 hB.2.1 hk hF hP1 hD1
  exact kk H1 locs1 ls ⟨hP2, hD2, hS⟩ h
theorem gj_callSWv (cx : CallFix p m c cc nL s args Ts own) (hK : va_K D cl tys s) (hA : ∀ q, H0.size ≤ q → A q) (hM : ∀ sz, MWv l y wy rm D cl tys wc wc' sz As) (cw : CallB R s args own index y bytes maxL ret wy rm 0 0 n ∧ (Cond.static y).before args s = true) (hJ : gj_J D cl A ws wc wc' ws') (hn : As.length = n) (hst : st = As.reverse ++ rest) (hW : (rest.map fun v => v.category).sum ≤ 8) (hdg : decode cc pc = .ok (.invokestatic index, 3)) (hcs : cells + 0 ≤ R.cells ∧ slots + 0 ≤ R.slots) (kk : Gj p l e R s m args below meth c nL (Bw D cl A H0) cells slots Q (pc + 3) lo rest ws') : Gj p l e R s m args below meth c nL (Bw D cl A H0) cells slots Q pc lo st ws := by
  intro H locs ls hB h
  have hPc := hJ.1 H hB.1
  have hDc := hJ.2.1 hB.2.1
  have hF := gj_AF hDc hB.2.2 hA
  refine va_callv (rest := rest) (va_runS (As := As) (rest := rest) cx (hM H.size) cw ⟨(fun a U g mk q => ⟨q.1, q.2.1, q.2.2.1, va_K.moved (u := U) (U := U.calling g mk a) (Vm.Alike.refl U.vm) q.2.2.2.1, q.2.2.2.2⟩), (fun U hU hW => ⟨rfl, by rw [hU], by rw [hU]; exact hPc, va_K.moved hW.alike hK, hDc.weaken (fun _ _ _ _ => trivial)⟩)⟩ rfl hn h.1 hst (lv_room hW) hdg hcs) hB.2.2 (fun q _ h => hF q h) hF (fun u t H1 locs1 ht _ _ hE _ hk hS => ?_)
  obtain ⟨hP1, hD1⟩ := hE
  rw [ht] at hP1
  obtain ⟨hP2, hD2⟩ := hJ.2.2 H H1 hB.1 hB.2.1 hk hF hP1 hD1
  exact kk H1 locs1 ls ⟨hP2, hD2, hS⟩ h
end GJD
section GJM
variable {p : Program} {l : Launch} {e : Env} {R : Room} {s : State} {m : MethodId} {args : Array Value} {below : List Frame} {meth : Method} {c : Code} {cells slots : Nat} {Q : State → Prop}
variable {nL : Nat} {cc : ByteArray} {Ts : List Cond} {own : String} {pc : Nat} {lo : List (Nat × Value)} {st : List Value}
variable {ω : Type} {B : ω → Heap → List Loc → Prop} {w : ω}
theorem gj_mmax (cx : CallFix p m c cc nL s args Ts own) {index : Nat} {x y : Int32} (hdg : decode cc pc = .ok (.invokestatic index, 3)) (hlink : Cond.methodLink own index Lib.Math.max.name ∈ Ts) (hstat : Cond.static Lib.Math.max.name ∈ Ts) (hini : Cond.initialized "java/lang/Math" ∈ Ts) (hcode : Cond.code Lib.Math.max.name Lib.Math.max.code 2 (some .int) ∈ Ts) (hfr : 1 ≤ R.frames) (hlc : (st.map fun v => v.category).sum + 13 ≤ R.locals) (hc : cells ≤ R.cells) (hs : slots ≤ R.slots) (kk : Gj p l e R s m args below meth c nL B cells slots Q (pc + 3) lo (.int (if x < y then y else x) :: st) w) : Gj p l e R s m args below meth c nL B cells slots Q pc lo (.int y :: .int x :: st) w :=
  fun H locs ls hB h => va_mmax cx.1 cx.2.1 (cx.2.2.1.trans h.1.symm) cx.2.2.2.1 (cx.2.2.2.2 _ hlink) (cx.2.2.2.2 _ hstat) (cx.2.2.2.2 _ hini) (cx.2.2.2.2 _ hcode) hfr hlc hc hs hdg (kk H locs ls hB h)
theorem gj_mmin (cx : CallFix p m c cc nL s args Ts own) {index : Nat} {x y : Int32} (hdg : decode cc pc = .ok (.invokestatic index, 3)) (hlink : Cond.methodLink own index Lib.Math.min.name ∈ Ts) (hstat : Cond.static Lib.Math.min.name ∈ Ts) (hini : Cond.initialized "java/lang/Math" ∈ Ts) (hcode : Cond.code Lib.Math.min.name Lib.Math.min.code 2 (some .int) ∈ Ts) (hfr : 1 ≤ R.frames) (hlc : (st.map fun v => v.category).sum + 13 ≤ R.locals) (hc : cells ≤ R.cells) (hs : slots ≤ R.slots) (kk : Gj p l e R s m args below meth c nL B cells slots Q (pc + 3) lo (.int (if y < x then y else x) :: st) w) : Gj p l e R s m args below meth c nL B cells slots Q pc lo (.int y :: .int x :: st) w :=
  fun H locs ls hB h => va_mmin cx.1 cx.2.1 (cx.2.2.1.trans h.1.symm) cx.2.2.2.1 (cx.2.2.2.2 _ hlink) (cx.2.2.2.2 _ hstat) (cx.2.2.2.2 _ hini) (cx.2.2.2.2 _ hcode) hfr hlc hc hs hdg (kk H locs ls hB h)
end GJM
end
section
/-! Pure words: papers, counting, one node of the class -/
def pn (p : Int64) : Nat := p.toBitVec.toNat
def payN (p : Int64) : Nat := pn p % 8
def amtN (p : Int64) : Nat := pn p / 8 % 1024
def needN (p : Int64) (c : Nat) : Nat := pn p / 2 ^ (13 + 3 * c) % 8
def digN (d : Int64) (c : Nat) : Nat := pn d / 2 ^ (3 * c) % 8
def cntB (P : Nat → Bool) : Nat → Nat
  | 0 => 0
  | k + 1 => cntB P k + (if P k = true then 1 else 0)
def allB (P : Nat → Bool) : Nat → Bool
  | 0 => true
  | k + 1 => allB P k && P k
/-- the least place from i on, k places looked at, where P holds; i + k where there is none -/
def fstB (P : Nat → Bool) : Nat → Nat → Nat
  | 0, i => i
  | k + 1, i => if P i = true then i else fstB P k (i + 1)
theorem cntB_le (P : Nat → Bool) : ∀ n, cntB P n ≤ n
  | 0 => Nat.le_refl _
  | n + 1 => by have := cntB_le P n; simp only [cntB]; split <;> omega
theorem cntB_t {P : Nat → Bool} {i : Nat} (h : P i = true) : cntB P (i + 1) = cntB P i + 1 := by simp only [cntB, h, if_true]
theorem cntB_f {P : Nat → Bool} {i : Nat} (h : P i = false) : cntB P (i + 1) = cntB P i := by simp [cntB, h]
theorem allB_iff {P : Nat → Bool} : ∀ {n : Nat}, allB P n = true ↔ ∀ c, c < n → P c = true
  | 0 => by simp [allB]
  | n + 1 => by
    rw [allB, Bool.and_eq_true, allB_iff]
    constructor
    · intro ⟨h1, h2⟩ c hc
      by_cases h : c = n
      · rw [h]; exact h2
      · exact h1 c (by omega)
    · intro h
      exact ⟨fun c hc => h c (by omega), h n (by omega)⟩
theorem allB_f {P : Nat → Bool} {n c : Nat} (hc : c < n) (h : P c = false) : allB P n = false := by
  cases hb : allB P n with
  | false => rfl
  | true => rw [allB_iff.mp hb c hc] at h; cases h
theorem payN_lt (p : Int64) : payN p < 8 := Nat.mod_lt _ (by decide)
theorem amtN_lt (p : Int64) : amtN p < 1024 := Nat.mod_lt _ (by decide)
theorem needN_lt (p : Int64) (c : Nat) : needN p c < 8 := Nat.mod_lt _ (by decide)
theorem digN_lt (p : Int64) (c : Nat) : digN p c < 8 := Nat.mod_lt _ (by decide)
def isMk (d : Int64) (n : Nat) : Bool := decide (pn d < 2 ^ (3 * n)) && allB (fun c => decide (digN d c ≤ 5)) n
def wfP (p : Int64) (a n : Nat) : Bool := decide (payN p < n) && (decide (payN p ≠ a) && (decide (amtN p ≠ 0) && (decide (needN p a = 0) && (decide (pn p < 2 ^ (13 + 3 * n)) && allB (fun c => decide (needN p c ≤ 5)) n))))
/-- a node: condition, fuseLeft, submissions, said, appliedCount, freedCount, balances, told, acceptedPapers -/
abbrev NS : Type := Nat × Nat × Nat × (Nat → Int64) × (Nat → Nat) × (Nat → Nat) × (Nat → Int64) × (Nat → Int64) × (Nat → Int64)
abbrev nCo (u : NS) : Nat := u.1
abbrev nFu (u : NS) : Nat := u.2.1
abbrev nSu (u : NS) : Nat := u.2.2.1
abbrev nSa (u : NS) : Nat → Int64 := u.2.2.2.1
abbrev nCn (u : NS) : Nat → Nat := u.2.2.2.2.1
abbrev nFr (u : NS) : Nat → Nat := u.2.2.2.2.2.1
abbrev nBa (u : NS) : Nat → Int64 := u.2.2.2.2.2.2.1
abbrev nTo (u : NS) : Nat → Int64 := u.2.2.2.2.2.2.2.1
abbrev nAc (u : NS) : Nat → Int64 := u.2.2.2.2.2.2.2.2
abbrev sCo (u : NS) (x : Nat) : NS := (x, u.2)
abbrev sFu (u : NS) (x : Nat) : NS := (u.1, x, u.2.2)
abbrev sSu (u : NS) (x : Nat) : NS := (u.1, u.2.1, x, u.2.2.2)
abbrev sSa (u : NS) (x : Nat → Int64) : NS := (u.1, u.2.1, u.2.2.1, x, u.2.2.2.2)
abbrev sCn (u : NS) (x : Nat → Nat) : NS := (u.1, u.2.1, u.2.2.1, u.2.2.2.1, x, u.2.2.2.2.2)
abbrev sFr (u : NS) (x : Nat → Nat) : NS := (u.1, u.2.1, u.2.2.1, u.2.2.2.1, u.2.2.2.2.1, x, u.2.2.2.2.2.2)
abbrev sBa (u : NS) (x : Nat → Int64) : NS := (u.1, u.2.1, u.2.2.1, u.2.2.2.1, u.2.2.2.2.1, u.2.2.2.2.2.1, x, u.2.2.2.2.2.2.2)
abbrev sTo (u : NS) (x : Nat → Int64) : NS := (u.1, u.2.1, u.2.2.1, u.2.2.2.1, u.2.2.2.2.1, u.2.2.2.2.2.1, u.2.2.2.2.2.2.1, x, u.2.2.2.2.2.2.2.2)
abbrev sAc (u : NS) (x : Nat → Int64) : NS := (u.1, u.2.1, u.2.2.1, u.2.2.2.1, u.2.2.2.2.1, u.2.2.2.2.2.1, u.2.2.2.2.2.2.1, u.2.2.2.2.2.2.2.1, x)
/-- what a node's numbers are within, for its methods to go through -/
def nOk (u : NS) : Prop := nCo u ≤ 2 ∧ nFu u ≤ 9 ∧ nSu u ≤ 5 ∧ (∀ c, nCn u c ≤ 5) ∧ (∀ c, nFr u c ≤ 5)
def nInv (n : Nat) (u : NS) : Prop := nOk u ∧ (∀ i, i < 35 → nAc u i ≠ -1 → payN (nAc u i) < n) ∧ (nSa u 140 = -1 ∨ ∀ c, c < n → digN (nSa u 140) c ≤ 5)
def nDown (u : NS) : NS := (1, 0, nSu u, nSa u, nCn u, nFr u, nBa u, fun _ => -1, fun _ => -1)
def nWr (u : NS) (t : Nat) (p : Int64) : NS := if nFu u = 1 then nDown u else sSa (sFu u (nFu u - 1)) (va_up (nSa u) t p)
def nWrB (u : NS) : Bool := decide (nFu u ≠ 1)
def nObj (u : NS) (t y : Nat) (p : Int64) : Int32 :=
  if t / 35 = 4 then (if nTo u (t * 7 + y) = p then -6 else 0)
  else if t / 35 = 0 ∧ y ≠ t % 35 / 5 then -4
  else if t % 5 + 1 ≤ nFr u (t % 35 / 5) then -5
  else if (if t / 35 = 0 then nSa u (35 + t % 35) else nTo u (t * 7 + y)) = -1 then 0 else -6
def nTell (u : NS) (t n : Nat) : Nat := cntB (fun y => decide (nTo u (t * 7 + y) ≠ -1)) n
def nTellOf (u : NS) (t : Nat) (p : Int64) (n : Nat) : Nat := cntB (fun y => decide (nTo u (t * 7 + y) = p)) n
def nWf (t : Nat) (p : Int64) (n : Nat) : Bool := if t = 140 then isMk p n else wfP p (t % 35 / 5) n
def nRdy (u : NS) (n f k i : Nat) (p : Int64) : Bool :=
  if nSa u (70 + i) ≠ -1 then false
  else if k = 1 then decide ((n + f) / 2 + 1 ≤ nTellOf u (35 + i) p n)
  else decide (k = 2) && decide (f + 1 ≤ nTellOf u (70 + i) p n)
def nAcq (u : NS) (n f i : Nat) (p : Int64) : Bool :=
  if i % 5 + 1 ≤ nCn u (i % 35 / 5) ∨ nAc u i ≠ -1 then false
  else decide (2 * f + 1 ≤ nTellOf u (70 + i) p n) || decide (f + 1 ≤ nTellOf u (105 + i) p n)
def nVal (u : NS) (n a : Nat) (p : Int64) : Bool :=
  if p = -1 ∨ nBa u a < lN (amtN p) then false else allB (fun c => decide (needN p c ≤ nCn u c)) n
def nNext (u : NS) (n c : Nat) : Bool := decide (nCn u c < 5) && nVal u n c (nAc u (c * 5 + nCn u c))
def nLeast (u : NS) (n : Nat) : Nat := fstB (nNext u n) n 0
def nPay (u : NS) (a : Nat) (p : Int64) : NS :=
  sBa (sCn u (va_up (nCn u) a (nCn u a + 1))) (va_up (va_up (nBa u) a (nBa u a - lN (amtN p))) (payN p) (va_up (nBa u) a (nBa u a - lN (amtN p)) (payN p) + lN (amtN p)))
def nApply (n : Nat) : Nat → Nat → NS → Int32 × NS
  | 0, k, u => (nI k, u)
  | m + 1, k, u =>
    if nLeast u n = n then (nI k, u)
    else if nFu u = 1 then (-7, nDown u)
    else nApply n m (k + 1) (sAc (nPay (nWr u (105 + (nLeast u n * 5 + nCn u (nLeast u n))) (nAc u (nLeast u n * 5 + nCn u (nLeast u n)))) (nLeast u n) (nAc u (nLeast u n * 5 + nCn u (nLeast u n)))) (va_up (nAc u) (nLeast u n * 5 + nCn u (nLeast u n)) (-1)))
def fgS (u : NS) (i k : Nat) : Nat → Int64 := fun t => if t % 35 = i ∧ t / 35 < k then -1 else nSa u t
def fgT (u : NS) (n i k y : Nat) : Nat → Int64 := fun j => if j / 7 % 35 = i ∧ 1 ≤ j / 245 ∧ (j / 245 < k ∧ j % 7 < n ∨ j / 245 = k ∧ j % 7 < y) then -1 else nTo u j
def nForget (u : NS) (n i : Nat) : NS := sTo (sSa u (fgS u i 3)) (fgT u n i 4 0)
/-- instances c * 5 + s, s from k on, m of them, are forgotten -/
def nForgets (n c k : Nat) : Nat → NS → NS
  | 0, u => u
  | m + 1, u => nForget (nForgets n c k m u) n (c * 5 + (k + m))
def nFreeC (n : Nat) (d : Int64) (c : Nat) (u : NS) : NS :=
  sFr (nForgets n c (nFr u c) (digN d c - nFr u c) u) (va_up (nFr (nForgets n c (nFr u c) (digN d c - nFr u c) u)) c (max (nFr u c) (digN d c)))
def nFreeTo (n : Nat) (d : Int64) : Nat → NS → NS
  | 0, u => u
  | k + 1, u => nFreeC n d k (nFreeTo n d k u)
def nFree (u : NS) (n f : Nat) : NS := if nSa u 140 = -1 ∨ nTellOf u 140 (nSa u 140) n < 2 * f + 1 then u else nFreeTo n (nSa u 140) n u
def nTake (u : NS) (n f t y : Nat) (p : Int64) : Int32 × NS :=
  if t / 35 = 0 then (if nFu u = 1 then -7 else 0, nWr u (35 + t % 35) p)
  else
    let v := sTo u (va_up (nTo u) (t * 7 + y) p)
    if t / 35 = 4 then (0, nFree v n f)
    else if nRdy v n f (t / 35) (t % 35) p = true ∧ nFu v = 1 then (-7, nDown v)
    else
      let z := if nRdy v n f (t / 35) (t % 35) p = true then nWr v (70 + t % 35) p else v
      nApply n 35 0 (if nAcq z n f (t % 35) p = true then sAc z (va_up (nAc z) (t % 35) p) else z)
def nRecv (u : NS) (n f t y : Nat) (p : Int64) : Int32 × NS :=
  if nWf t p n = false then (-3, u) else if nObj u t y p = 0 then nTake u n f t y p else (nObj u t y p, u)
def nWould (u : NS) (t y : Nat) (p : Int64) : Bool := decide (nCo u = 0) && (decide (nTo u (t * 7 + y) ≠ p) && decide (nObj u t y p = 0))
def nKeep (u : NS) (n i : Nat) : Bool :=
  if nSa u (35 + i) ≠ -1 ∨ nSa u (70 + i) ≠ -1 then true
  else decide (0 < nTell u (35 + i) n) || (decide (0 < nTell u (70 + i) n) || decide (0 < nTell u (105 + i) n))
def nKept (u : NS) (n : Nat) : Nat := cntB (nKeep u n) 35
/-- balance less what is submitted and not applied: the first m papers behind the k-th -/
def nLeft (u : NS) (me k : Nat) : Nat → Int64
  | 0 => nBa u me
  | m + 1 => nLeft u me k m - lN (amtN (nSa u (me * 5 + (k + m))))
def nSpend (u : NS) (me : Nat) : Int64 := nLeft u me (nCn u me) (nSu u - nCn u me)
def nLast (u : NS) (me c : Nat) : Nat → Nat
  | 0 => 0
  | t + 1 => if payN (nSa u (105 + c * 5 + t)) = me then t + 1 else nLast u me c t
/-- digits, three bits each -/
def digs (f : Nat → Nat) : Nat → Nat
  | 0 => 0
  | k + 1 => digs f k + f k * 2 ^ (3 * k)
def nNeeds (u : NS) (me n : Nat) : Nat := digs (fun c => nLast u me c (nCn u c)) n
def nMark (u : NS) (n : Nat) : Nat := digs (nCn u) n
def nSubmit (u : NS) (me n pay amt : Nat) : Int32 × NS :=
  if 5 ≤ nSu u then (-8, u)
  else if nSpend u me < lN amt then (-9, u)
  else if nFu u = 1 then (-7, nDown u)
  else (nI (nSu u + 1), sSu (nWr u (me * 5 + nSu u) (lN (pay + 8 * amt + 8192 * nNeeds u me n))) (nSu u + 1))
def nMarkW (u : NS) (n : Nat) : Int32 × NS := if nFu u = 1 then (-7, nDown u) else (nI (nMark u n), nWr u 140 (lN (nMark u n)))
end
section
/-! Bits of papers: shifts and masks as division and remainder -/
theorem pb_ext (x : BitVec 64) (k w : Nat) (h : k + w ≤ 64) : (x.sshiftRight k &&& BitVec.ofNat 64 (2 ^ w - 1)).toNat = x.toNat / 2 ^ k % 2 ^ w := by
  apply Nat.eq_of_testBit_eq
  intro i
  rw [BitVec.toNat_and, Nat.testBit_and, Nat.testBit_mod_two_pow, Nat.testBit_div_two_pow, BitVec.testBit_toNat, BitVec.testBit_toNat, BitVec.testBit_toNat, BitVec.getLsbD_sshiftRight, BitVec.getLsbD_ofNat, Nat.testBit_two_pow_sub_one]
  by_cases hi : i < w
  · have h1 : k + i < 64 := by omega
    have h2 : i < 64 := by omega
    have h3 : ¬ 64 ≤ i := by omega
    simp [hi, h1, h2, h3, Nat.add_comm]
  · simp [hi]
theorem pb_amt : ∀ k : Fin 64, (((nI k.val).toInt64 &&& 63).toBitVec.smod 64).toNat = k.val := by decide +kernel
theorem pb_13 : (((nI 13).toInt64 &&& 63).toBitVec.smod 64).toNat = 13 := by decide +kernel
theorem pb_toNat {n : Nat} (h : n < 2 ^ 32) : (nI n).toBitVec.toNat = n := pk_tn h
theorem px_shr (p m : Int64) {k w : Nat} (hk : k + w ≤ 64) (hw : w < 32) (hw0 : 0 < w) (hm : m.toBitVec = BitVec.ofNat 64 (2 ^ w - 1)) : ((p >>> ((nI k).toInt64 &&& 63)) &&& m).toInt32 = nI (pn p / 2 ^ k % 2 ^ w) := by
  apply Int32.toBitVec_inj.mp
  apply BitVec.eq_of_toNat_eq
  have hp : pn p / 2 ^ k % 2 ^ w < 2 ^ 32 := Nat.lt_trans (Nat.mod_lt _ (Nat.two_pow_pos w)) (Nat.pow_lt_pow_right (by decide) hw)
  rw [pb_toNat hp, Int64.toBitVec_toInt32, BitVec.signExtend_eq_setWidth_of_le _ (by decide), BitVec.toNat_setWidth, Int64.toBitVec_and, Int64.toBitVec_shiftRight, hm]
  have e : p.toBitVec.sshiftRight' (((nI k).toInt64 &&& 63).toBitVec.smod 64) = p.toBitVec.sshiftRight k := by
    show p.toBitVec.sshiftRight (((nI k).toInt64 &&& 63).toBitVec.smod 64).toNat = _
    rw [pb_amt ⟨k, by omega⟩]
  rw [e, pb_ext _ _ _ hk]
  exact Nat.mod_eq_of_lt hp
theorem px_and (p m : Int64) {w : Nat} (hw : w < 32) (hw0 : 0 < w) (hm : m.toBitVec = BitVec.ofNat 64 (2 ^ w - 1)) : (p &&& m).toInt32 = nI (pn p % 2 ^ w) := by
  have h := px_shr p m (k := 0) (w := w) (by omega) hw hw0 hm
  have e : p >>> ((nI 0).toInt64 &&& 63) = p := by
    apply Int64.toBitVec_inj.mp
    rw [Int64.toBitVec_shiftRight]
    show p.toBitVec.sshiftRight (((nI 0).toInt64 &&& 63).toBitVec.smod 64).toNat = _
    rw [pb_amt ⟨0, by decide⟩]
    simp
  rw [e] at h
  rw [h]
  simp
theorem px_pay (p : Int64) : (p &&& 7).toInt32 = nI (payN p) := px_and p 7 (w := 3) (by decide) (by decide) (by decide)
theorem px_amt (p : Int64) : ((p >>> ((nI 3).toInt64 &&& 63)) &&& 1023).toInt32 = nI (amtN p) := px_shr p 1023 (k := 3) (w := 10) (by decide) (by decide) (by decide) (by decide)
theorem px_need (p : Int64) {c : Nat} (hc : c < 7) : ((p >>> ((nI (13 + 3 * c)).toInt64 &&& 63)) &&& 7).toInt32 = nI (needN p c) := px_shr p 7 (k := 13 + 3 * c) (w := 3) (by omega) (by decide) (by decide) (by decide)
theorem px_dig (p : Int64) {c : Nat} (hc : c < 7) : ((p >>> ((nI (3 * c)).toInt64 &&& 63)) &&& 7).toInt32 = nI (digN p c) := px_shr p 7 (k := 3 * c) (w := 3) (by omega) (by decide) (by decide) (by decide)
theorem px_one {n : Nat} (hn : n ≤ 7) : (1 : Int64) <<< ((nI (3 * n)).toInt64 &&& 63) = lN (2 ^ (3 * n)) := by
  have h : ∀ n : Fin 8, (1 : Int64) <<< ((nI (3 * n.val)).toInt64 &&& 63) = lN (2 ^ (3 * n.val)) := by decide +kernel
  exact h ⟨n, by omega⟩
theorem px_int (x : Int64) : x.toInt = if 2 * pn x < 2 ^ 64 then (pn x : Int) else (pn x : Int) - 2 ^ 64 := by
  show x.toBitVec.toInt = _
  rw [BitVec.toInt_eq_toNat_cond]
  rfl
theorem px_lt (x : Int64) : pn x < 2 ^ 64 := x.toBitVec.isLt
theorem px_neg (x : Int64) : x < 0 ↔ 2 ^ 63 ≤ pn x := by
  rw [Int64.lt_iff_toInt_lt, px_int]
  have h := px_lt x
  have h0 : (0 : Int64).toInt = 0 := by decide
  rw [h0]
  split <;> omega
theorem px_ge (x : Int64) {n : Nat} (hn : n < 2 ^ 63) (h0 : ¬ x < 0) : lN n ≤ x ↔ n ≤ pn x := by
  rw [px_neg] at h0
  rw [Int64.le_iff_toInt_le, pk_lT hn, px_int x]
  have h := px_lt x
  split <;> omega
theorem px_lN {n : Nat} (h : n < 2 ^ 64) : pn (lN n) = n := by
  show (Int64.ofNat n).toBitVec.toNat = n
  rw [Int64.toBitVec_ofNat', BitVec.toNat_ofNat]
  exact Nat.mod_eq_of_lt h
theorem px_inj {x y : Int64} (h : pn x = pn y) : x = y := Int64.toBitVec_inj.mp (BitVec.eq_of_toNat_eq h)
theorem px_of (x : Int64) : x = lN (pn x) := px_inj (px_lN (px_lt x)).symm
/-- p >> 13 of a paper that is not negative -/
theorem px_13 (p : Int64) (h : ¬ p < 0) : p >>> ((nI 13).toInt64 &&& 63) = lN (pn p / 2 ^ 13) := by
  rw [px_neg] at h
  apply px_inj
  have h1 := px_lt p
  rw [px_lN (by omega)]
  show (p >>> ((nI 13).toInt64 &&& 63)).toBitVec.toNat = _
  rw [Int64.toBitVec_shiftRight]
  show (p.toBitVec.sshiftRight (((nI 13).toInt64 &&& 63).toBitVec.smod 64).toNat).toNat = _
  rw [pb_13]
  rw [BitVec.toNat_sshiftRight_of_msb_false (by rw [BitVec.msb_eq_decide]; simpa using (by unfold pn at h; omega))]
  rw [Nat.shiftRight_eq_div_pow]
  rfl
theorem px_13n (p : Int64) (h : p < 0) : p >>> ((nI 13).toInt64 &&& 63) < 0 := by
  rw [Int64.lt_iff_toInt_lt] at h ⊢
  have h0 : (0 : Int64).toInt = 0 := by decide
  rw [h0] at h ⊢
  show (p >>> ((nI 13).toInt64 &&& 63)).toBitVec.toInt < 0
  rw [Int64.toBitVec_shiftRight]
  show (p.toBitVec.sshiftRight (((nI 13).toInt64 &&& 63).toBitVec.smod 64).toNat).toInt < 0
  rw [pb_13, BitVec.toInt_sshiftRight]
  have h : p.toBitVec.toInt < 0 := h
  rw [Int.shiftRight_eq_div_pow]
  omega
theorem px_dig13 (p : Int64) (h : ¬ p < 0) (c : Nat) : digN (p >>> ((nI 13).toInt64 &&& 63)) c = needN p c := by
  have h1 := px_lt p
  rw [px_13 p h]
  unfold digN needN
  rw [px_lN (by omega), Nat.div_div_eq_div_mul, ← Nat.pow_add]
end
section
/-! What the papers' checks rest on -/
theorem isMk_neg {d : Int64} {n : Nat} (hn : n ≤ 7) (h : d < 0) : isMk d n = false := by
  rw [px_neg] at h
  have h2 : 2 ^ (3 * n) ≤ 2 ^ 21 := Nat.pow_le_pow_right (by decide) (by omega)
  have h3 : ¬ pn d < 2 ^ (3 * n) := by omega
  simp [isMk, h3]
theorem isMk_big {d : Int64} {n : Nat} (hn : n ≤ 7) (h0 : ¬ d < 0) (h : ¬ d < lN (2 ^ (3 * n))) : isMk d n = false := by
  have h2 : 2 ^ (3 * n) ≤ 2 ^ 21 := Nat.pow_le_pow_right (by decide) (by omega)
  have h1 : lN (2 ^ (3 * n)) ≤ d := Int64.not_lt.mp h
  rw [px_ge d (by omega) h0] at h1
  have h3 : ¬ pn d < 2 ^ (3 * n) := by omega
  simp [isMk, h3]
theorem isMk_dig {d : Int64} {n c : Nat} (hc : c < n) (h : 5 < digN d c) : isMk d n = false := by
  have h3 : allB (fun c => decide (digN d c ≤ 5)) n = false := allB_f hc (by simpa using h)
  simp [isMk, h3]
theorem isMk_ok {d : Int64} {n : Nat} (h0 : ¬ d < 0) (h : d < lN (2 ^ (3 * n))) (ha : allB (fun c => decide (digN d c ≤ 5)) n = true) (hn : n ≤ 7 := by assumption) : isMk d n = true := by
  have h2 : 2 ^ (3 * n) ≤ 2 ^ 21 := Nat.pow_le_pow_right (by decide) (by omega)
  have h1 : ¬ lN (2 ^ (3 * n)) ≤ d := Int64.not_le.mpr h
  rw [px_ge d (by omega) h0] at h1
  have h3 : pn d < 2 ^ (3 * n) := by omega
  simp [isMk, h3, ha]
theorem wfP_eq {p : Int64} {a n : Nat} (hn : n ≤ 7) : wfP p a n = (decide (payN p < n) && (decide (payN p ≠ a) && (decide (amtN p ≠ 0) && (decide (needN p a = 0) && isMk (p >>> ((nI 13).toInt64 &&& 63)) n)))) := by
  have key : isMk (p >>> ((nI 13).toInt64 &&& 63)) n = (decide (pn p < 2 ^ (13 + 3 * n)) && allB (fun c => decide (needN p c ≤ 5)) n) := by
    have h2 : 2 ^ (13 + 3 * n) ≤ 2 ^ 34 := Nat.pow_le_pow_right (by decide) (by omega)
    by_cases h : p < 0
    · rw [isMk_neg hn (px_13n p h)]
      rw [px_neg] at h
      have h3 : ¬ pn p < 2 ^ (13 + 3 * n) := by omega
      simp [h3]
    · have hd : (fun c => decide (digN (p >>> ((nI 13).toInt64 &&& 63)) c ≤ 5)) = (fun c => decide (needN p c ≤ 5)) := by
        funext c
        rw [px_dig13 p h c]
      have hl := px_lt p
      unfold isMk
      rw [hd, px_13 p h, px_lN (by omega)]
      have e : (pn p / 2 ^ 13 < 2 ^ (3 * n)) ↔ pn p < 2 ^ (13 + 3 * n) := by
        rw [Nat.div_lt_iff_lt_mul (by decide), Nat.pow_add, Nat.mul_comm]
      simp only [e]
  rw [key]
  rfl
theorem wfP_ok {p : Int64} {a n : Nat} (hn : n ≤ 7) (h1 : payN p < n) (h2 : payN p ≠ a) (h3 : amtN p ≠ 0) (h4 : needN p a = 0) (h5 : isMk (p >>> ((nI 13).toInt64 &&& 63)) n = true) : wfP p a n = true := by
  rw [wfP_eq hn]
  simp [h1, h2, h3, h4, h5]
theorem wfP_f {p : Int64} {a n : Nat} (hn : n ≤ 7) (h : n ≤ payN p ∨ payN p = a ∨ amtN p = 0 ∨ needN p a ≠ 0 ∨ isMk (p >>> ((nI 13).toInt64 &&& 63)) n = false) : wfP p a n = false := by
  rw [wfP_eq hn]
  rcases h with h | h | h | h | h
  · have : ¬ payN p < n := by omega
    simp [this]
  · simp [h]
  · simp [h]
  · simp [h]
  · simp [h]
theorem px_shl {n k : Nat} (hk : k < 64) : lN n <<< ((nI k).toInt64 &&& 63) = lN (n * 2 ^ k) := by
  apply Int64.toBitVec_inj.mp
  rw [Int64.toBitVec_shiftLeft]
  show (lN n).toBitVec <<< (((nI k).toInt64 &&& 63).toBitVec.smod 64).toNat = _
  rw [pb_amt ⟨k, hk⟩]
  apply BitVec.eq_of_toNat_eq
  rw [BitVec.toNat_shiftLeft]
  show ((Int64.ofNat n).toBitVec.toNat <<< k) % 2 ^ 64 = (Int64.ofNat (n * 2 ^ k)).toBitVec.toNat
  rw [Int64.toBitVec_ofNat', Int64.toBitVec_ofNat', BitVec.toNat_ofNat, BitVec.toNat_ofNat, Nat.shiftLeft_eq, Nat.mod_mul_mod]
theorem px_or {a b k : Nat} (ha : a < 2 ^ k) (h : b * 2 ^ k + a < 2 ^ 64) : lN a ||| lN (b * 2 ^ k) = lN (a + b * 2 ^ k) := by
  apply px_inj
  have h1 : a < 2 ^ 64 := by omega
  have h2 : b * 2 ^ k < 2 ^ 64 := by omega
  rw [px_lN (by omega)]
  show (lN a ||| lN (b * 2 ^ k)).toBitVec.toNat = _
  rw [Int64.toBitVec_or, BitVec.toNat_or]
  show pn (lN a) ||| pn (lN (b * 2 ^ k)) = _
  rw [px_lN h1, px_lN h2, Nat.or_comm, Nat.mul_comm b, ← Nat.two_pow_add_eq_or_of_lt ha]
  omega
theorem px_make {pay amt nd : Nat} (hp : pay < 8) (ha : amt < 1024) (hd : nd < 2097152) : ((nI pay).toInt64 ||| (nI amt).toInt64 <<< ((nI 3).toInt64 &&& 63)) ||| lN nd <<< ((nI 13).toInt64 &&& 63) = lN (pay + 8 * amt + 8192 * nd) := by
  rw [nI_l (by omega), nI_l (by omega), px_shl (by decide), px_shl (by decide), px_or (by omega) (by omega), px_or (by omega) (by omega)]
  congr 1
  omega
end
section
/-! Contracts of Topic and Paper, laid by wip/gen/m_tp.py -/
set_option maxRecDepth 100000 in
set_option maxHeartbeats 4000000 in
theorem c_T_of (l : Launch) (D : va_G) (tys : List (ClassId × FieldType)) (k : Nat) (b : Nat) (sq : Nat) (hs : 1 ≤ (k * 7 + b) * 5 + sq) : MRi l y_T_of (wsM y_T_of b_T_of 3 (some .int)) { frames := 0, cells := 0, slots := 0, locals := 0 } D vwK tys ([]) [.int (nI k), .int (nI b), .int (nI sq)] (nI ((k * 7 + b) * 5 + sq - 1)) := by
  refine gj_enterR (own := R_T) (by decide) rfl (Nat.le_of_ble_eq_true rfl) rfl rfl (fun p e s m below meth c cx hr hlk hK => ?_)
  refine gj_iload_n (pc := 0) cx d_T_of_0 rfl (x := nI k) rfl ?_
  refine gj_bipush (pc := 1) cx d_T_of_1 (v := nI 7) (by decide) ?_
  refine gj_imulN (pc := 3) cx d_T_of_3 ?_
  refine gj_iload_n (pc := 4) cx d_T_of_4 rfl (x := nI b) rfl ?_
  refine gj_iaddN (pc := 5) cx d_T_of_5 ?_
  refine gj_iconst (pc := 6) cx d_T_of_6 (v := nI 5) (by decide) ?_
  refine gj_imulN (pc := 7) cx d_T_of_7 ?_
  refine gj_iload_n (pc := 8) cx d_T_of_8 rfl (x := nI sq) rfl ?_
  refine gj_iaddN (pc := 9) cx d_T_of_9 ?_
  refine gj_iconst (pc := 10) cx d_T_of_10 (v := nI 1) (by decide) ?_
  refine gj_isubN (pc := 11) cx d_T_of_11 (by omega) ?_
  exact gj_iretR (pc := 12) cx hr hlk d_T_of_12 (rfl)

set_option maxRecDepth 100000 in
set_option maxHeartbeats 4000000 in
theorem c_T_at (l : Launch) (D : va_G) (tys : List (ClassId × FieldType)) (k : Nat) (i : Nat)  : MRi l y_T_at (wsM y_T_at b_T_at 2 (some .int)) { frames := 0, cells := 0, slots := 0, locals := 0 } D vwK tys ([]) [.int (nI k), .int (nI i)] (nI (k * 35 + i)) := by
  refine gj_enterR (own := R_T) (by decide) rfl (Nat.le_of_ble_eq_true rfl) rfl rfl (fun p e s m below meth c cx hr hlk hK => ?_)
  refine gj_iload_n (pc := 0) cx d_T_at_0 rfl (x := nI k) rfl ?_
  refine gj_bipush (pc := 1) cx d_T_at_1 (v := nI 35) (by decide) ?_
  refine gj_imulN (pc := 3) cx d_T_at_3 ?_
  refine gj_iload_n (pc := 4) cx d_T_at_4 rfl (x := nI i) rfl ?_
  refine gj_iaddN (pc := 5) cx d_T_at_5 ?_
  exact gj_iretR (pc := 6) cx hr hlk d_T_at_6 (rfl)

set_option maxRecDepth 100000 in
set_option maxHeartbeats 4000000 in
theorem c_T_kind (l : Launch) (D : va_G) (tys : List (ClassId × FieldType)) (t : Nat) (ht : t < 2147483648) : MRi l y_T_kind (wsM y_T_kind b_T_kind 1 (some .int)) { frames := 0, cells := 0, slots := 0, locals := 0 } D vwK tys ([]) [.int (nI t)] (nI (t / 35)) := by
  refine gj_enterR (own := R_T) (by decide) rfl (Nat.le_of_ble_eq_true rfl) rfl rfl (fun p e s m below meth c cx hr hlk hK => ?_)
  refine gj_iload_n (pc := 0) cx d_T_kind_0 rfl (x := nI t) rfl ?_
  refine gj_bipush (pc := 1) cx d_T_kind_1 (v := nI 35) (by decide) ?_
  refine gj_idivN (pc := 3) cx d_T_kind_3 (by omega) (by omega) (by omega) ?_
  exact gj_iretR (pc := 4) cx hr hlk d_T_kind_4 (rfl)

set_option maxRecDepth 100000 in
set_option maxHeartbeats 4000000 in
theorem c_T_instance (l : Launch) (D : va_G) (tys : List (ClassId × FieldType)) (t : Nat) (ht : t < 2147483648) : MRi l y_T_instance (wsM y_T_instance b_T_instance 1 (some .int)) { frames := 0, cells := 0, slots := 0, locals := 0 } D vwK tys ([]) [.int (nI t)] (nI (t % 35)) := by
  refine gj_enterR (own := R_T) (by decide) rfl (Nat.le_of_ble_eq_true rfl) rfl rfl (fun p e s m below meth c cx hr hlk hK => ?_)
  refine gj_iload_n (pc := 0) cx d_T_instance_0 rfl (x := nI t) rfl ?_
  refine gj_bipush (pc := 1) cx d_T_instance_1 (v := nI 35) (by decide) ?_
  refine gj_iremN (pc := 3) cx d_T_instance_3 (by omega) (by omega) (by omega) ?_
  exact gj_iretR (pc := 4) cx hr hlk d_T_instance_4 (rfl)

set_option maxRecDepth 100000 in
set_option maxHeartbeats 4000000 in
theorem c_T_account (l : Launch) (D : va_G) (tys : List (ClassId × FieldType)) (t : Nat) (ht : t < 2147483648) : MRi l y_T_account (wsM y_T_account b_T_account 1 (some .int)) { frames := 0, cells := 0, slots := 0, locals := 0 } D vwK tys ([]) [.int (nI t)] (nI (t % 35 / 5)) := by
  refine gj_enterR (own := R_T) (by decide) rfl (Nat.le_of_ble_eq_true rfl) rfl rfl (fun p e s m below meth c cx hr hlk hK => ?_)
  refine gj_iload_n (pc := 0) cx d_T_account_0 rfl (x := nI t) rfl ?_
  refine gj_bipush (pc := 1) cx d_T_account_1 (v := nI 35) (by decide) ?_
  refine gj_iremN (pc := 3) cx d_T_account_3 (by omega) (by omega) (by omega) ?_
  refine gj_iconst (pc := 4) cx d_T_account_4 (v := nI 5) (by decide) ?_
  refine gj_idivN (pc := 5) cx d_T_account_5 (by omega) (by omega) (by omega) ?_
  exact gj_iretR (pc := 6) cx hr hlk d_T_account_6 (rfl)

set_option maxRecDepth 100000 in
set_option maxHeartbeats 4000000 in
theorem c_T_seq (l : Launch) (D : va_G) (tys : List (ClassId × FieldType)) (t : Nat) (ht : t < 2147483648) : MRi l y_T_seq (wsM y_T_seq b_T_seq 1 (some .int)) { frames := 0, cells := 0, slots := 0, locals := 0 } D vwK tys ([]) [.int (nI t)] (nI (t % 5 + 1)) := by
  refine gj_enterR (own := R_T) (by decide) rfl (Nat.le_of_ble_eq_true rfl) rfl rfl (fun p e s m below meth c cx hr hlk hK => ?_)
  refine gj_iload_n (pc := 0) cx d_T_seq_0 rfl (x := nI t) rfl ?_
  refine gj_iconst (pc := 1) cx d_T_seq_1 (v := nI 5) (by decide) ?_
  refine gj_iremN (pc := 2) cx d_T_seq_2 (by omega) (by omega) (by omega) ?_
  refine gj_iconst (pc := 3) cx d_T_seq_3 (v := nI 1) (by decide) ?_
  refine gj_iaddN (pc := 4) cx d_T_seq_4 ?_
  exact gj_iretR (pc := 5) cx hr hlk d_T_seq_5 (rfl)

set_option maxRecDepth 100000 in
set_option maxHeartbeats 4000000 in
theorem c_P_payee (l : Launch) (D : va_G) (tys : List (ClassId × FieldType)) (pp : Int64)  : MRi l y_P_payee (wsM y_P_payee b_P_payee 2 (some .int)) { frames := 0, cells := 0, slots := 0, locals := 0 } D vwK tys ([]) [.long pp] (nI (payN pp)) := by
  refine gj_enterR (own := R_P) (by decide) rfl (Nat.le_of_ble_eq_true rfl) rfl rfl (fun p e s m below meth c cx hr hlk hK => ?_)
  refine gj_lload_n (pc := 0) cx d_P_payee_0 rfl (x := pp) rfl ?_
  refine gj_ldc2 (pc := 1) cx d_P_payee_1 (v := 7) (in_WT wm_104) ?_
  refine gj_land (pc := 4) cx d_P_payee_4 ?_
  refine gj_l2i (pc := 5) cx d_P_payee_5 rfl ?_
  refine gj_toi (y := nI (payN pp)) (px_pay pp) ?_
  exact gj_iretR (pc := 6) cx hr hlk d_P_payee_6 (rfl)

set_option maxRecDepth 100000 in
set_option maxHeartbeats 4000000 in
theorem c_P_amount (l : Launch) (D : va_G) (tys : List (ClassId × FieldType)) (pp : Int64)  : MRi l y_P_amount (wsM y_P_amount b_P_amount 2 (some .int)) { frames := 0, cells := 0, slots := 0, locals := 0 } D vwK tys ([]) [.long pp] (nI (amtN pp)) := by
  refine gj_enterR (own := R_P) (by decide) rfl (Nat.le_of_ble_eq_true rfl) rfl rfl (fun p e s m below meth c cx hr hlk hK => ?_)
  refine gj_lload_n (pc := 0) cx d_P_amount_0 rfl (x := pp) rfl ?_
  refine gj_iconst (pc := 1) cx d_P_amount_1 (v := nI 3) (by decide) ?_
  refine gj_lshr (pc := 2) cx d_P_amount_2 rfl ?_
  refine gj_ldc2 (pc := 3) cx d_P_amount_3 (v := 1023) (in_WT wm_94) ?_
  refine gj_land (pc := 6) cx d_P_amount_6 ?_
  refine gj_l2i (pc := 7) cx d_P_amount_7 rfl ?_
  refine gj_toi (y := nI (amtN pp)) (px_amt pp) ?_
  exact gj_iretR (pc := 8) cx hr hlk d_P_amount_8 (rfl)

set_option maxRecDepth 100000 in
set_option maxHeartbeats 4000000 in
theorem c_P_need (l : Launch) (D : va_G) (tys : List (ClassId × FieldType)) (pp : Int64) (b : Nat) (hb : b < 7) : MRi l y_P_need (wsM y_P_need b_P_need 3 (some .int)) { frames := 0, cells := 0, slots := 0, locals := 0 } D vwK tys ([]) [.long pp, .int (nI b)] (nI (needN pp b)) := by
  refine gj_enterR (own := R_P) (by decide) rfl (Nat.le_of_ble_eq_true rfl) rfl rfl (fun p e s m below meth c cx hr hlk hK => ?_)
  refine gj_lload_n (pc := 0) cx d_P_need_0 rfl (x := pp) rfl ?_
  refine gj_bipush (pc := 1) cx d_P_need_1 (v := nI 13) (by decide) ?_
  refine gj_iconst (pc := 3) cx d_P_need_3 (v := nI 3) (by decide) ?_
  refine gj_iload_n (pc := 4) cx d_P_need_4 rfl (x := nI b) rfl ?_
  refine gj_imulN (pc := 5) cx d_P_need_5 ?_
  refine gj_iaddN (pc := 6) cx d_P_need_6 ?_
  refine gj_lshr (pc := 7) cx d_P_need_7 rfl ?_
  refine gj_ldc2 (pc := 8) cx d_P_need_8 (v := 7) (in_WT wm_104) ?_
  refine gj_land (pc := 11) cx d_P_need_11 ?_
  refine gj_l2i (pc := 12) cx d_P_need_12 rfl ?_
  refine gj_toi (y := nI (needN pp b)) (px_need pp hb) ?_
  exact gj_iretR (pc := 13) cx hr hlk d_P_need_13 (rfl)

set_option maxRecDepth 100000 in
set_option maxHeartbeats 4000000 in
theorem c_P_digit (l : Launch) (D : va_G) (tys : List (ClassId × FieldType)) (pp : Int64) (b : Nat) (hb : b < 7) : MRi l y_P_digit (wsM y_P_digit b_P_digit 3 (some .int)) { frames := 0, cells := 0, slots := 0, locals := 0 } D vwK tys ([]) [.long pp, .int (nI b)] (nI (digN pp b)) := by
  refine gj_enterR (own := R_P) (by decide) rfl (Nat.le_of_ble_eq_true rfl) rfl rfl (fun p e s m below meth c cx hr hlk hK => ?_)
  refine gj_lload_n (pc := 0) cx d_P_digit_0 rfl (x := pp) rfl ?_
  refine gj_iconst (pc := 1) cx d_P_digit_1 (v := nI 3) (by decide) ?_
  refine gj_iload_n (pc := 2) cx d_P_digit_2 rfl (x := nI b) rfl ?_
  refine gj_imulN (pc := 3) cx d_P_digit_3 ?_
  refine gj_lshr (pc := 4) cx d_P_digit_4 rfl ?_
  refine gj_ldc2 (pc := 5) cx d_P_digit_5 (v := 7) (in_WT wm_104) ?_
  refine gj_land (pc := 8) cx d_P_digit_8 ?_
  refine gj_l2i (pc := 9) cx d_P_digit_9 rfl ?_
  refine gj_toi (y := nI (digN pp b)) (px_dig pp hb) ?_
  exact gj_iretR (pc := 10) cx hr hlk d_P_digit_10 (rfl)

set_option maxRecDepth 100000 in
set_option maxHeartbeats 4000000 in
theorem c_P_make (l : Launch) (D : va_G) (tys : List (ClassId × FieldType)) (pay : Nat) (amt : Nat) (ll : Int64) (nd : Nat) (hp : pay < 8) (ha : amt < 1024) (hd : nd < 2097152) (hl : ll = lN nd) : MRl l y_P_make (wsM y_P_make b_P_make 4 (some .long)) { frames := 0, cells := 0, slots := 0, locals := 0 } D vwK tys ([]) [.int (nI pay), .int (nI amt), .long ll] (lN (pay + 8 * amt + 8192 * nd)) := by
  refine gj_enterR (own := R_P) (by decide) rfl (Nat.le_of_ble_eq_true rfl) rfl rfl (fun p e s m below meth c cx hr hlk hK => ?_)
  refine gj_iload_n (pc := 0) cx d_P_make_0 rfl (x := nI pay) rfl ?_
  refine gj_i2l (pc := 1) cx d_P_make_1 rfl ?_
  refine gj_iload_n (pc := 2) cx d_P_make_2 rfl (x := nI amt) rfl ?_
  refine gj_i2l (pc := 3) cx d_P_make_3 rfl ?_
  refine gj_iconst (pc := 4) cx d_P_make_4 (v := nI 3) (by decide) ?_
  refine gj_lshl (pc := 5) cx d_P_make_5 rfl ?_
  refine gj_lor (pc := 6) cx d_P_make_6 ?_
  refine gj_lload_n (pc := 7) cx d_P_make_7 rfl (x := ll) rfl ?_
  refine gj_bipush (pc := 8) cx d_P_make_8 (v := nI 13) (by decide) ?_
  refine gj_lshl (pc := 10) cx d_P_make_10 rfl ?_
  refine gj_lor (pc := 11) cx d_P_make_11 ?_
  exact gj_lretR (pc := 12) cx hr hlk d_P_make_12 (hl ▸ px_make hp ha hd)

set_option maxRecDepth 100000 in
set_option maxHeartbeats 4000000 in
theorem c_P_isMark (l : Launch) (D : va_G) (tys : List (ClassId × FieldType)) (dd : Int64) (n : Nat) (hn : n ≤ 7) : MRi l y_P_isMark (wsM y_P_isMark b_P_isMark 4 (some .boolean)) { frames := 1, cells := 0, slots := 0, locals := 22 } D vwK tys ([]) [.long dd, .int (nI n)] (bI (isMk dd n)) := by
  refine gj_enterR (own := R_P) (by decide) rfl (Nat.le_of_ble_eq_true rfl) rfl rfl (fun p e s m below meth c cx hr hlk hK => ?_)
  refine gj_lload_n (pc := 0) cx d_P_isMark_0 rfl (x := dd) rfl ?_
  refine gj_lconst (pc := 1) cx d_P_isMark_1 (v := 0) (by decide) ?_
  refine gj_lcmp_lt (pc := 2) cx d_P_isMark_2 d_P_isMark_3 (tgt := 16) rfl (fun hb1 => ?_) (fun hb1 => ?_)
  · refine gj_iconst (pc := 16) cx d_P_isMark_16 (v := nI 0) (by decide) ?_
    exact gj_zretR (pc := 17) cx hr hlk d_P_isMark_17 rfl (by rw [isMk_neg hn hb1]; rfl)
  · refine gj_lload_n (pc := 6) cx d_P_isMark_6 rfl (x := dd) rfl ?_
    refine gj_lconst (pc := 7) cx d_P_isMark_7 (v := 1) (by decide) ?_
    refine gj_iconst (pc := 8) cx d_P_isMark_8 (v := nI 3) (by decide) ?_
    refine gj_iload_n (pc := 9) cx d_P_isMark_9 rfl (x := nI n) rfl ?_
    refine gj_imulN (pc := 10) cx d_P_isMark_10 ?_
    refine gj_lshl (pc := 11) cx d_P_isMark_11 rfl ?_
    refine gj_tol (y := lN (2 ^ (3 * n))) (px_one hn) ?_
    refine gj_lcmp_lt (pc := 12) cx d_P_isMark_12 d_P_isMark_13 (tgt := 18) rfl (fun hb2 => ?_) (fun hb2 => ?_)
    · refine gj_iconst (pc := 18) cx d_P_isMark_18 (v := nI 0) (by decide) ?_
      refine gj_istore_n (pc := 19) cx d_P_isMark_19 rfl (lo' := [(3, .int (nI 0)), (0, .long dd), (2, .int (nI n))]) (by decide) rfl ?_
      refine gj_pick (lo' := [(0, .long dd), (2, .int (nI n)), (3, .int (nI 0))]) [1, 2, 0] rfl ?_
      refine gj_forH (G := Gj p l e _ s m _ below meth c _ _ _ _ _) (fun i => allB (fun c => decide (digN dd c ≤ 5)) i = true) n 20 (fun i => [(0, .long dd), (2, .int (nI n)), (3, .int (nI i))]) (fun i => []) (fun i hi ihi qi => ?_) 0 (by omega) (rfl)
      refine gj_iload_n (pc := 20) cx d_P_isMark_20 rfl (x := nI i) rfl ?_
      refine gj_iload_n (pc := 21) cx d_P_isMark_21 rfl (x := nI n) rfl ?_
      refine gj_icmp_geN (pc := 22) cx d_P_isMark_22 (tgt := 42) rfl (by omega) (by omega) (fun hb3 => ?_) (fun hb3 => ?_)
      · refine gj_iconst (pc := 42) cx d_P_isMark_42 (v := nI 1) (by decide) ?_
        exact gj_zretR (pc := 43) cx hr hlk d_P_isMark_43 rfl (by rw [isMk_ok hb1 hb2 ((show i = n from (by omega)) ▸ qi)]; rfl)
      · refine gj_lload_n (pc := 25) cx d_P_isMark_25 rfl (x := dd) rfl ?_
        refine gj_iload_n (pc := 26) cx d_P_isMark_26 rfl (x := nI i) rfl ?_
        refine gj_callSRi (pc := 27) (As := [.long dd, .int (nI i)]) (rest := []) (v := nI (digN dd i)) cx hK (c_P_digit l D tys dd i (by omega)) (va_cwS 2 cx.2.2.2.2 (good_S wm_151 wm_149 wm_150 wm_7) rfl rfl rfl (by decide +kernel) ⟨Nat.le_of_ble_eq_true rfl, Nat.le_of_ble_eq_true rfl⟩) (fun _ _ _ => gj_P0) rfl rfl (Nat.le_of_ble_eq_true rfl) d_P_isMark_27 ⟨Nat.zero_le _, Nat.zero_le _⟩ ?_
        have hv4 := digN_lt dd i
        refine gj_iconst (pc := 30) cx d_P_isMark_30 (v := nI 5) (by decide) ?_
        refine gj_icmp_leN (pc := 31) cx d_P_isMark_31 (tgt := 36) rfl (by omega) (by omega) (fun hb5 => ?_) (fun hb5 => ?_)
        · refine gj_iincN (pc := 36) cx d_P_isMark_36 (k := 2) (d := 1) (lo' := [(3, .int (nI (i + 1))), (0, .long dd), (2, .int (nI n))]) rfl (by decide) (by decide) rfl ?_
          refine gj_goto (pc := 39) cx d_P_isMark_39 (tgt := 20) rfl ?_
          refine gj_pick (lo' := [(0, .long dd), (2, .int (nI n)), (3, .int (nI (i + 1)))]) [1, 2, 0] rfl ?_
          exact gj_eq rfl (rfl) rfl (rfl) (ihi (by omega) (by simp [allB, qi, hb3, hb5]))
        · refine gj_iconst (pc := 34) cx d_P_isMark_34 (v := nI 0) (by decide) ?_
          exact gj_zretR (pc := 35) cx hr hlk d_P_isMark_35 rfl (by rw [isMk_dig hb3 hb5]; rfl)
    · refine gj_iconst (pc := 16) cx d_P_isMark_16 (v := nI 0) (by decide) ?_
      exact gj_zretR (pc := 17) cx hr hlk d_P_isMark_17 rfl (by rw [isMk_big hn hb1 hb2]; rfl)

set_option maxRecDepth 100000 in
set_option maxHeartbeats 4000000 in
theorem c_P_isWellFormed (l : Launch) (D : va_G) (tys : List (ClassId × FieldType)) (pp : Int64) (b : Nat) (n : Nat) (hb : b < 7) (hn : n ≤ 7) : MRi l y_P_isWellFormed (wsM y_P_isWellFormed b_P_isWellFormed 4 (some .boolean)) { frames := 2, cells := 0, slots := 0, locals := 45 } D vwK tys ([]) [.long pp, .int (nI b), .int (nI n)] (bI (wfP pp b n)) := by
  refine gj_enterR (own := R_P) (by decide) rfl (Nat.le_of_ble_eq_true rfl) rfl rfl (fun p e s m below meth c cx hr hlk hK => ?_)
  refine gj_lload_n (pc := 0) cx d_P_isWellFormed_0 rfl (x := pp) rfl ?_
  refine gj_callSRi (pc := 1) (As := [.long pp]) (rest := []) (v := nI (payN pp)) cx hK (c_P_payee l D tys pp ) (va_cwS 1 cx.2.2.2.2 (good_S wm_103 wm_158 wm_102 wm_7) rfl rfl rfl (by decide +kernel) ⟨Nat.le_of_ble_eq_true rfl, Nat.le_of_ble_eq_true rfl⟩) (fun _ _ _ => gj_P0) rfl rfl (Nat.le_of_ble_eq_true rfl) d_P_isWellFormed_1 ⟨Nat.zero_le _, Nat.zero_le _⟩ ?_
  have hv1 := payN_lt pp
  refine gj_iload_n (pc := 4) cx d_P_isWellFormed_4 rfl (x := nI n) rfl ?_
  refine gj_icmp_geN (pc := 5) cx d_P_isWellFormed_5 (tgt := 23) rfl (by omega) (by omega) (fun hb2 => ?_) (fun hb2 => ?_)
  · refine gj_iconst (pc := 23) cx d_P_isWellFormed_23 (v := nI 0) (by decide) ?_
    exact gj_zretR (pc := 24) cx hr hlk d_P_isWellFormed_24 rfl (by rw [wfP_f hn (by first | exact Or.inl hb2 | exact Or.inr (Or.inl hb2) | exact Or.inr (Or.inr (Or.inl hb2)) | exact Or.inr (Or.inr (Or.inr (Or.inl hb2))) | exact Or.inr (Or.inr (Or.inr (Or.inr hb2))))]; rfl)
  · refine gj_lload_n (pc := 8) cx d_P_isWellFormed_8 rfl (x := pp) rfl ?_
    refine gj_callSRi (pc := 9) (As := [.long pp]) (rest := []) (v := nI (payN pp)) cx hK (c_P_payee l D tys pp ) (va_cwS 1 cx.2.2.2.2 (good_S wm_103 wm_158 wm_102 wm_7) rfl rfl rfl (by decide +kernel) ⟨Nat.le_of_ble_eq_true rfl, Nat.le_of_ble_eq_true rfl⟩) (fun _ _ _ => gj_P0) rfl rfl (Nat.le_of_ble_eq_true rfl) d_P_isWellFormed_9 ⟨Nat.zero_le _, Nat.zero_le _⟩ ?_
    have hv3 := payN_lt pp
    refine gj_iload_n (pc := 12) cx d_P_isWellFormed_12 rfl (x := nI b) rfl ?_
    refine gj_icmp_eqN (pc := 13) cx d_P_isWellFormed_13 (tgt := 23) rfl (by omega) (by omega) (fun hb4 => ?_) (fun hb4 => ?_)
    · refine gj_iconst (pc := 23) cx d_P_isWellFormed_23 (v := nI 0) (by decide) ?_
      exact gj_zretR (pc := 24) cx hr hlk d_P_isWellFormed_24 rfl (by rw [wfP_f hn (by first | exact Or.inl hb4 | exact Or.inr (Or.inl hb4) | exact Or.inr (Or.inr (Or.inl hb4)) | exact Or.inr (Or.inr (Or.inr (Or.inl hb4))) | exact Or.inr (Or.inr (Or.inr (Or.inr hb4))))]; rfl)
    · refine gj_lload_n (pc := 16) cx d_P_isWellFormed_16 rfl (x := pp) rfl ?_
      refine gj_callSRi (pc := 17) (As := [.long pp]) (rest := []) (v := nI (amtN pp)) cx hK (c_P_amount l D tys pp ) (va_cwS 1 cx.2.2.2.2 (good_S wm_93 wm_159 wm_92 wm_7) rfl rfl rfl (by decide +kernel) ⟨Nat.le_of_ble_eq_true rfl, Nat.le_of_ble_eq_true rfl⟩) (fun _ _ _ => gj_P0) rfl rfl (Nat.le_of_ble_eq_true rfl) d_P_isWellFormed_17 ⟨Nat.zero_le _, Nat.zero_le _⟩ ?_
      have hv5 := amtN_lt pp
      refine gj_if_neN (pc := 20) cx d_P_isWellFormed_20 (tgt := 25) rfl (by omega) (fun hb6 => ?_) (fun hb6 => ?_)
      · refine gj_lload_n (pc := 25) cx d_P_isWellFormed_25 rfl (x := pp) rfl ?_
        refine gj_iload_n (pc := 26) cx d_P_isWellFormed_26 rfl (x := nI b) rfl ?_
        refine gj_callSRi (pc := 27) (As := [.long pp, .int (nI b)]) (rest := []) (v := nI (needN pp b)) cx hK (c_P_need l D tys pp b (by omega)) (va_cwS 2 cx.2.2.2.2 (good_S wm_162 wm_160 wm_161 wm_7) rfl rfl rfl (by decide +kernel) ⟨Nat.le_of_ble_eq_true rfl, Nat.le_of_ble_eq_true rfl⟩) (fun _ _ _ => gj_P0) rfl rfl (Nat.le_of_ble_eq_true rfl) d_P_isWellFormed_27 ⟨Nat.zero_le _, Nat.zero_le _⟩ ?_
        have hv7 := needN_lt pp b
        refine gj_if_neN (pc := 30) cx d_P_isWellFormed_30 (tgt := 48) rfl (by omega) (fun hb8 => ?_) (fun hb8 => ?_)
        · refine gj_iconst (pc := 48) cx d_P_isWellFormed_48 (v := nI 0) (by decide) ?_
          exact gj_zretR (pc := 49) cx hr hlk d_P_isWellFormed_49 rfl (by rw [wfP_f hn (by first | exact Or.inl hb8 | exact Or.inr (Or.inl hb8) | exact Or.inr (Or.inr (Or.inl hb8)) | exact Or.inr (Or.inr (Or.inr (Or.inl hb8))) | exact Or.inr (Or.inr (Or.inr (Or.inr hb8))))]; rfl)
        · refine gj_lload_n (pc := 33) cx d_P_isWellFormed_33 rfl (x := pp) rfl ?_
          refine gj_bipush (pc := 34) cx d_P_isWellFormed_34 (v := nI 13) (by decide) ?_
          refine gj_lshr (pc := 36) cx d_P_isWellFormed_36 rfl ?_
          refine gj_iload_n (pc := 37) cx d_P_isWellFormed_37 rfl (x := nI n) rfl ?_
          refine gj_callSRi (pc := 38) (As := [.long (pp >>> ((nI 13).toInt64 &&& 63)), .int (nI n)]) (rest := []) (v := bI (isMk (pp >>> ((nI 13).toInt64 &&& 63)) n)) cx hK (c_P_isMark l D tys (pp >>> ((nI 13).toInt64 &&& 63)) n (by omega)) (va_cwS 2 cx.2.2.2.2 (good_S wm_148 wm_163 wm_147 wm_7) rfl rfl rfl (by decide +kernel) ⟨Nat.le_of_ble_eq_true rfl, Nat.le_of_ble_eq_true rfl⟩) (fun _ _ _ => gj_P0) rfl rfl (Nat.le_of_ble_eq_true rfl) d_P_isWellFormed_38 ⟨Nat.zero_le _, Nat.zero_le _⟩ ?_
          refine gj_if_eqB (pc := 41) cx d_P_isWellFormed_41 (tgt := 48) rfl (fun hb9 => ?_) (fun hb9 => ?_)
          · refine gj_iconst (pc := 48) cx d_P_isWellFormed_48 (v := nI 0) (by decide) ?_
            exact gj_zretR (pc := 49) cx hr hlk d_P_isWellFormed_49 rfl (by rw [wfP_f hn (by first | exact Or.inl hb9 | exact Or.inr (Or.inl hb9) | exact Or.inr (Or.inr (Or.inl hb9)) | exact Or.inr (Or.inr (Or.inr (Or.inl hb9))) | exact Or.inr (Or.inr (Or.inr (Or.inr hb9))))]; rfl)
          · refine gj_iconst (pc := 44) cx d_P_isWellFormed_44 (v := nI 1) (by decide) ?_
            refine gj_goto (pc := 45) cx d_P_isWellFormed_45 (tgt := 49) rfl ?_
            exact gj_zretR (pc := 49) cx hr hlk d_P_isWellFormed_49 rfl (by rw [wfP_ok hn hb2 hb4 hb6 hb8 hb9]; rfl)
      · refine gj_iconst (pc := 23) cx d_P_isWellFormed_23 (v := nI 0) (by decide) ?_
        exact gj_zretR (pc := 24) cx hr hlk d_P_isWellFormed_24 rfl (by rw [wfP_f hn (by first | exact Or.inl hb6 | exact Or.inr (Or.inl hb6) | exact Or.inr (Or.inr (Or.inl hb6)) | exact Or.inr (Or.inr (Or.inr (Or.inl hb6))) | exact Or.inr (Or.inr (Or.inr (Or.inr hb6))))]; rfl)
end
section
/-! A node's cells -/
abbrev tyl (cI cJ : ClassId) : List (ClassId × FieldType) := [(cI, .int), (cJ, .long)]
def nW (cI cJ : ClassId) (a : Nat → Nat) (me n f : Nat) (u : NS) : va_W :=
  [(a 0, .inr (0, [.int (nI me), .int (nI n), .int (nI f), .int (nI (nCo u)), .int (nI (nFu u)), .int (nI (nSu u)), .ref (a 1), .ref (a 2), .ref (a 3), .ref (a 4), .ref (a 5), .ref (a 6)])),
   (a 1, .inl (cJ, 141, .inr (.inl (nSa u)))), (a 2, .inl (cI, 7, .inl (fun j => nI (nCn u j)))), (a 3, .inl (cI, 7, .inl (fun j => nI (nFr u j)))),
   (a 4, .inl (cJ, 7, .inr (.inl (nBa u)))), (a 5, .inl (cJ, 987, .inr (.inl (nTo u)))), (a 6, .inl (cJ, 35, .inr (.inl (nAc u))))]
theorem nTell_lt (u : NS) (t n : Nat) : nTell u t n ≤ n := cntB_le _ _
theorem nTellOf_lt (u : NS) (t : Nat) (p : Int64) (n : Nat) : nTellOf u t p n ≤ n := cntB_le _ _
theorem fuse_max {k : Nat} (h : k ≤ 9) : (if nI 0 < nI k - nI 1 then nI k - nI 1 else nI 0) = nI (k - 1) := by
  have : ∀ k : Fin 10, (if nI 0 < nI k.val - nI 1 then nI k.val - nI 1 else nI 0) = nI (k.val - 1) := by decide +kernel
  exact this ⟨k, by omega⟩
section CELL
variable {p : Program} {l : Launch} {e : Env} {R : Room} {s : State} {m : MethodId} {args : Array Value} {below : List Frame} {meth : Method} {c : Code} {cells slots : Nat} {Q : State → Prop}
variable {nL : Nat} {cc : ByteArray} {Ts : List Cond} {own : String} {pc : Nat} {lo : List (Nat × Value)} {st : List Value}
variable {D : va_G} {cl : List vw_C} {tys : List (ClassId × FieldType)} {ws ws' : va_W} {A : Nat → Prop} {H0 : Heap} {a : Nat}
/-- a row's contents beyond its length are nobody's business -/
theorem gj_arrL {cA : ClassId} {n : Nat} {f f' : Nat → Int64} (q0 : Nat) (ha : ws[q0]? = some (a, .inl (cA, n, .inr (.inl f)))) (hf : ∀ j, j < n → f j = f' j) (hws : ws.set q0 (a, .inl (cA, n, .inr (.inl f'))) = ws') (kk : Gj p l e R s m args below meth c nL (Bw D cl A H0) cells slots Q pc lo st ws') : Gj p l e R s m args below meth c nL (Bw D cl A H0) cells slots Q pc lo st ws := by
  intro H locs ls hB h
  refine kk H locs ls (hws ▸ ⟨?_, hB.2.1.set ha, hB.2.2⟩) h
  refine hB.1.set hB.2.1 ha ?_ (fun _ _ => rfl)
  have h1 : H[a]? = some (vp_cell cA (n, .inr (.inl f))) := hB.1 q0 _ ha
  show H[a]? = some (vp_cell cA (n, .inr (.inl f')))
  rw [h1, vp_cell_l, vp_cell_l]
  have e : (fun j : Fin n => Value.long (f j.val)) = (fun j : Fin n => Value.long (f' j.val)) := by
    funext j
    rw [hf j.val j.isLt]
  unfold arrV
  rw [e]
theorem gj_alen {cA : ClassId} {n : Nat} {x : vp_A} {ty : FieldType} {ω : Type} {B : ω → Heap → List Loc → Prop} {w : ω} (cx : CallFix p m c cc nL s args Ts own) (hK : va_K D cl tys s) (hP : ∀ H locs, B w H locs → va_P D cl ws H) (hdg : decode cc pc = .ok (.arraylength, 1)) (q0 t0 : Nat) (ha : ws[q0]? = some (a, .inl (cA, x))) (ht : tys[t0]? = some (cA, ty)) (hn : x.1 = n) (kk : Gj p l e R s m args below meth c nL B cells slots Q (pc + 1) lo (.int (nI n) :: st) w) : Gj p l e R s m args below meth c nL B cells slots Q pc lo (.ref a :: st) w :=
  fun H locs ls hB h => va_alen cx.1 cx.2.1 hK (hP H locs hB) q0 t0 ha ht (by rw [hn]; rfl) hdg (kk H locs ls hB h)
end CELL
/-- one cell of a world goes out to a call and comes back -/
theorem gj_J.one {D : va_G} {cl : List vw_C} {A : Nat → Prop} {ws : va_W} {b k : Nat} {e e' : va_E} (hk : ws[k]? = some (b, e)) : gj_J D cl A ws [(b, e)] [(b, e')] (ws.set k (b, e')) := by
  refine ⟨fun H hP => fun i q hq => ?_, fun hD => ⟨fun i j x y hi hj _ => ?_, fun i q hq => ?_⟩, fun H H1 hP hD hke _ hP1 _ => ⟨fun i q hq => ?_, hD.set hk⟩⟩
  · cases i with
    | zero => cases hq; exact hP k _ hk
    | succ i => simp at hq
  · cases i with
    | zero => cases j with
      | zero => rfl
      | succ j => simp at hj
    | succ i => simp at hi
  · cases i with
    | zero => cases hq; exact hD.2 k _ hk
    | succ i => simp at hq
  · by_cases hik : i = k
    · subst hik
      rw [List.getElem?_set_self (List.getElem?_eq_some_iff.mp hk).1] at hq
      cases hq
      exact hP1 0 _ rfl
    · rw [List.getElem?_set_ne (Ne.symm hik)] at hq
      have hne : q.1 ≠ b := fun z => hik (hD.1 i k q (b, e) hq hk z)
      refine (hP i q hq).kept (hke q.1 (hP i q hq).lt (fun z => ?_))
      rcases z with ⟨j, e2, hj⟩ | z
      · cases j with
        | zero => cases hj; exact hne rfl
        | succ j => simp at hj
      · have := (hP i q hq).lt
        omega
set_option maxRecDepth 100000 in
set_option maxHeartbeats 4000000 in
theorem c_JA_fill (l : Launch) (D : va_G) (tys : List (ClassId × FieldType)) (t0 : Nat) (cJ : ClassId) (ht : tys[t0]? = some (cJ, .long)) (q n : Nat) (hn : n < 2147483648) (g : Nat → Int64) (v : Int64) (sz : Nat) : MWv l y_JA_fill (wsM y_JA_fill b_JA_fill 5 none) { frames := 0, cells := 0, slots := 0, locals := 0 } D vwK tys [(q, .inl (cJ, n, .inr (.inl g)))] [(q, .inl (cJ, n, .inr (.inl (fun _ => v))))] sz [.ref q, .long v] := by
  refine gj_enterW (own := "java/util/Arrays") (by decide) rfl (Nat.le_of_ble_eq_true rfl) rfl rfl (fun p e s m below meth c cx hr hlk hK hsz => ?_)
  refine gj_iconst (pc := 0) cx d_JA_fill_0 (v := nI 0) (by decide) ?_
  refine gj_istore_n (pc := 1) cx d_JA_fill_1 rfl (lo' := [(3, .int (nI 0)), (0, .ref q), (1, .long v)]) (by decide) rfl ?_
  refine gj_aload_n (pc := 2) cx d_JA_fill_2 rfl (x := q) rfl ?_
  refine gj_alen (pc := 3) (n := n) cx hK gj_wP d_JA_fill_3 0 t0 rfl ht rfl ?_
  refine gj_istore (pc := 4) cx d_JA_fill_4 (lo' := [(4, .int (nI n)), (3, .int (nI 0)), (0, .ref q), (1, .long v)]) (by decide) rfl ?_
  refine gj_arrL (f' := fun j => if j < 0 then v else g j) (ws' := [(q, .inl (cJ, n, .inr (.inl (fun j => if j < 0 then v else g j))))]) 0 rfl (fun j _ => by simp) rfl ?_
  refine gj_forG (G := Gj p l e _ s m _ below meth c _ _ _ _ _) n 6 (fun i => [(4, .int (nI n)), (3, .int (nI i)), (0, .ref q), (1, .long v)]) (fun i => [(q, .inl (cJ, n, .inr (.inl (fun j => if j < i then v else g j))))]) (fun i hi ih => ?_) 0 (Nat.zero_le _)
  refine gj_iload_n (pc := 6) cx d_JA_fill_6 rfl (x := nI i) rfl ?_
  refine gj_iload (pc := 7) cx d_JA_fill_7 (x := nI n) rfl ?_
  refine gj_icmp_geN (pc := 9) cx d_JA_fill_9 (tgt := 22) rfl (by omega) (by omega) (fun hb => ?_) (fun hb => ?_)
  · refine gj_arrL (f' := fun _ => v) 0 rfl (fun j hj => by show (if j < i then v else g j) = v; rw [if_pos (by omega)]) rfl ?_
    exact gj_vretW (pc := 22) cx hr hlk d_JA_fill_22 rfl
  · refine gj_aload_n (pc := 12) cx d_JA_fill_12 rfl (x := q) rfl ?_
    refine gj_iload_n (pc := 13) cx d_JA_fill_13 rfl (x := nI i) rfl ?_
    refine gj_lload_n (pc := 14) cx d_JA_fill_14 rfl (x := v) rfl ?_
    refine gj_last (pc := 15) (i := i) (f := fun j => if j < i then v else g j) (x := v) (ws' := [(q, .inl (cJ, n, .inr (.inl (va_up (fun j => if j < i then v else g j) i v))))]) cx hK d_JA_fill_15 0 t0 rfl ht hb (by omega) rfl ?_
    refine gj_iincN (pc := 16) cx d_JA_fill_16 (k := 1) (d := 1) (lo' := [(3, .int (nI (i + 1))), (4, .int (nI n)), (0, .ref q), (1, .long v)]) rfl (by decide) (by decide) rfl ?_
    refine gj_goto (pc := 19) cx d_JA_fill_19 (tgt := 6) rfl ?_
    refine gj_pick (lo' := [(4, .int (nI n)), (3, .int (nI (i + 1))), (0, .ref q), (1, .long v)]) [1, 0, 2, 3] rfl ?_
    refine gj_arrL (f' := fun j => if j < i + 1 then v else g j) (ws' := [(q, .inl (cJ, n, .inr (.inl (fun j => if j < i + 1 then v else g j))))]) 0 rfl (fun j hj => ?_) rfl (ih hb)
    show (if j = i then v else (if j < i then v else g j)) = _
    by_cases h1 : j = i
    · rw [if_pos h1, if_pos (by omega)]
    · by_cases h2 : j < i
      · rw [if_neg h1, if_pos h2, if_pos (by omega)]
      · rw [if_neg h1, if_neg h2, if_neg (by omega)]
end
section
/-! Contracts of Node, first part, laid by wip/gen/m_node.py -/
set_option maxRecDepth 100000 in
set_option maxHeartbeats 4000000 in
theorem c_N_condition (l : Launch) (D : va_G) (cI cJ : ClassId) (a : Nat → Nat) (me n f : Nat) (u : NS)   : MRi l y_N_condition (wsM y_N_condition b_N_condition 1 (some .int)) { frames := 0, cells := 0, slots := 0, locals := 0 } D vwK (tyl cI cJ) (nW cI cJ a me n f u) [.ref (a 0)] (nI (nCo u)) := by
  refine gj_enterR (own := R_N) (by decide) rfl (Nat.le_of_ble_eq_true rfl) rfl rfl (fun p e s m below meth c cx hr hlk hK => ?_)
  refine gj_aload_n (pc := 0) cx d_N_condition_0 rfl (x := a 0) rfl ?_
  refine gj_get (pc := 1) (ci := 0) (C := R_N) (T := T_N) (N := 12) (v := .int (nI (nCo u))) cx hK gj_rP in_N d_N_condition_1 0 rfl rfl 3 (by decide) (in_WT wm_36) rfl ?_
  exact gj_iretR (pc := 4) cx hr hlk d_N_condition_4 (rfl)

set_option maxRecDepth 100000 in
set_option maxHeartbeats 4000000 in
theorem c_N_said (l : Launch) (D : va_G) (cI cJ : ClassId) (a : Nat → Nat) (me n f : Nat) (u : NS) (t : Nat) (ht : t < 141) : MRl l y_N_said (wsM y_N_said b_N_said 2 (some .long)) { frames := 0, cells := 0, slots := 0, locals := 0 } D vwK (tyl cI cJ) (nW cI cJ a me n f u) [.ref (a 0), .int (nI t)] (nSa u t) := by
  refine gj_enterR (own := R_N) (by decide) rfl (Nat.le_of_ble_eq_true rfl) rfl rfl (fun p e s m below meth c cx hr hlk hK => ?_)
  refine gj_aload_n (pc := 0) cx d_N_said_0 rfl (x := a 0) rfl ?_
  refine gj_get (pc := 1) (ci := 0) (C := R_N) (T := T_N) (N := 12) (v := .ref (a 1)) cx hK gj_rP in_N d_N_said_1 0 rfl rfl 6 (by decide) (in_WT wm_39) rfl ?_
  refine gj_iload_n (pc := 4) cx d_N_said_4 rfl (x := nI t) rfl ?_
  refine gj_lald (pc := 5) (i := t) (f := nSa u) cx hK gj_rP d_N_said_5 1 1 rfl rfl (by omega) (by decide) ?_
  exact gj_lretR (pc := 6) cx hr hlk d_N_said_6 (rfl)

set_option maxRecDepth 100000 in
set_option maxHeartbeats 4000000 in
theorem c_N_acceptedFor (l : Launch) (D : va_G) (cI cJ : ClassId) (a : Nat → Nat) (me n f : Nat) (u : NS) (i : Nat) (hi : i < 35) : MRl l y_N_acceptedFor (wsM y_N_acceptedFor b_N_acceptedFor 2 (some .long)) { frames := 0, cells := 0, slots := 0, locals := 0 } D vwK (tyl cI cJ) (nW cI cJ a me n f u) [.ref (a 0), .int (nI i)] (nAc u i) := by
  refine gj_enterR (own := R_N) (by decide) rfl (Nat.le_of_ble_eq_true rfl) rfl rfl (fun p e s m below meth c cx hr hlk hK => ?_)
  refine gj_aload_n (pc := 0) cx d_N_acceptedFor_0 rfl (x := a 0) rfl ?_
  refine gj_get (pc := 1) (ci := 0) (C := R_N) (T := T_N) (N := 12) (v := .ref (a 6)) cx hK gj_rP in_N d_N_acceptedFor_1 0 rfl rfl 11 (by decide) (in_WT wm_44) rfl ?_
  refine gj_iload_n (pc := 4) cx d_N_acceptedFor_4 rfl (x := nI i) rfl ?_
  refine gj_lald (pc := 5) (i := i) (f := nAc u) cx hK gj_rP d_N_acceptedFor_5 6 1 rfl rfl (by omega) (by decide) ?_
  exact gj_lretR (pc := 6) cx hr hlk d_N_acceptedFor_6 (rfl)

set_option maxRecDepth 100000 in
set_option maxHeartbeats 4000000 in
theorem c_N_appliedOf (l : Launch) (D : va_G) (cI cJ : ClassId) (a : Nat → Nat) (me n f : Nat) (u : NS) (b : Nat) (hb : b < 7) : MRi l y_N_appliedOf (wsM y_N_appliedOf b_N_appliedOf 2 (some .int)) { frames := 0, cells := 0, slots := 0, locals := 0 } D vwK (tyl cI cJ) (nW cI cJ a me n f u) [.ref (a 0), .int (nI b)] (nI (nCn u b)) := by
  refine gj_enterR (own := R_N) (by decide) rfl (Nat.le_of_ble_eq_true rfl) rfl rfl (fun p e s m below meth c cx hr hlk hK => ?_)
  refine gj_aload_n (pc := 0) cx d_N_appliedOf_0 rfl (x := a 0) rfl ?_
  refine gj_get (pc := 1) (ci := 0) (C := R_N) (T := T_N) (N := 12) (v := .ref (a 2)) cx hK gj_rP in_N d_N_appliedOf_1 0 rfl rfl 7 (by decide) (in_WT wm_40) rfl ?_
  refine gj_iload_n (pc := 4) cx d_N_appliedOf_4 rfl (x := nI b) rfl ?_
  refine gj_ialdN (pc := 5) (i := b) (f := nCn u) cx hK gj_rP d_N_appliedOf_5 2 0 rfl rfl (by omega) (by decide) ?_
  exact gj_iretR (pc := 6) cx hr hlk d_N_appliedOf_6 (rfl)

set_option maxRecDepth 100000 in
set_option maxHeartbeats 4000000 in
theorem c_N_balanceOf (l : Launch) (D : va_G) (cI cJ : ClassId) (a : Nat → Nat) (me n f : Nat) (u : NS) (b : Nat) (hb : b < 7) : MRl l y_N_balanceOf (wsM y_N_balanceOf b_N_balanceOf 2 (some .long)) { frames := 0, cells := 0, slots := 0, locals := 0 } D vwK (tyl cI cJ) (nW cI cJ a me n f u) [.ref (a 0), .int (nI b)] (nBa u b) := by
  refine gj_enterR (own := R_N) (by decide) rfl (Nat.le_of_ble_eq_true rfl) rfl rfl (fun p e s m below meth c cx hr hlk hK => ?_)
  refine gj_aload_n (pc := 0) cx d_N_balanceOf_0 rfl (x := a 0) rfl ?_
  refine gj_get (pc := 1) (ci := 0) (C := R_N) (T := T_N) (N := 12) (v := .ref (a 4)) cx hK gj_rP in_N d_N_balanceOf_1 0 rfl rfl 9 (by decide) (in_WT wm_42) rfl ?_
  refine gj_iload_n (pc := 4) cx d_N_balanceOf_4 rfl (x := nI b) rfl ?_
  refine gj_lald (pc := 5) (i := b) (f := nBa u) cx hK gj_rP d_N_balanceOf_5 4 1 rfl rfl (by omega) (by decide) ?_
  exact gj_lretR (pc := 6) cx hr hlk d_N_balanceOf_6 (rfl)

set_option maxRecDepth 100000 in
set_option maxHeartbeats 4000000 in
theorem c_N_freedOf (l : Launch) (D : va_G) (cI cJ : ClassId) (a : Nat → Nat) (me n f : Nat) (u : NS) (b : Nat) (hb : b < 7) : MRi l y_N_freedOf (wsM y_N_freedOf b_N_freedOf 2 (some .int)) { frames := 0, cells := 0, slots := 0, locals := 0 } D vwK (tyl cI cJ) (nW cI cJ a me n f u) [.ref (a 0), .int (nI b)] (nI (nFr u b)) := by
  refine gj_enterR (own := R_N) (by decide) rfl (Nat.le_of_ble_eq_true rfl) rfl rfl (fun p e s m below meth c cx hr hlk hK => ?_)
  refine gj_aload_n (pc := 0) cx d_N_freedOf_0 rfl (x := a 0) rfl ?_
  refine gj_get (pc := 1) (ci := 0) (C := R_N) (T := T_N) (N := 12) (v := .ref (a 3)) cx hK gj_rP in_N d_N_freedOf_1 0 rfl rfl 8 (by decide) (in_WT wm_41) rfl ?_
  refine gj_iload_n (pc := 4) cx d_N_freedOf_4 rfl (x := nI b) rfl ?_
  refine gj_ialdN (pc := 5) (i := b) (f := nFr u) cx hK gj_rP d_N_freedOf_5 3 0 rfl rfl (by omega) (by decide) ?_
  exact gj_iretR (pc := 6) cx hr hlk d_N_freedOf_6 (rfl)

set_option maxRecDepth 100000 in
set_option maxHeartbeats 4000000 in
theorem c_N_turnFaulty (l : Launch) (D : va_G) (cI cJ : ClassId) (a : Nat → Nat) (me n f : Nat) (u : NS)   (sz : Nat) : MWv l y_N_turnFaulty (wsM y_N_turnFaulty b_N_turnFaulty 1 none) { frames := 0, cells := 0, slots := 0, locals := 0 } D vwK (tyl cI cJ) (nW cI cJ a me n f u) (nW cI cJ a me n f (sCo u 2)) sz [.ref (a 0)] := by
  refine gj_enterW (own := R_N) (by decide) rfl (Nat.le_of_ble_eq_true rfl) rfl rfl (fun p e s m below meth c cx hr hlk hK hsz => ?_)
  have hA : ∀ q, s.heap.size ≤ q → va_A (nW cI cJ a me n f u) sz q := fun q h => Or.inr (hsz ▸ h)
  refine gj_aload_n (pc := 0) cx d_N_turnFaulty_0 rfl (x := a 0) rfl ?_
  refine gj_iconst (pc := 1) cx d_N_turnFaulty_1 (v := nI 2) (by decide) ?_
  refine gj_put (pc := 2) (ci := 0) (C := R_N) (T := T_N) (N := 12) (ty := .int) (v := .int (nI 2)) (ws' := nW cI cJ a me n f (2, nFu u, nSu u, nSa u, nCn u, nFr u, nBa u, nTo u, nAc u)) cx hK in_N ty_N ty_N_ok nm_N d_N_turnFaulty_2 0 rfl rfl 3 (by decide) (in_WT wm_36) rfl (by decide +kernel) rfl rfl (Nat.le_of_ble_eq_true rfl) rfl ?_
  exact gj_vretW (pc := 5) cx hr hlk d_N_turnFaulty_5 (rfl)

set_option maxRecDepth 100000 in
set_option maxHeartbeats 4000000 in
theorem c_N_comeUp (l : Launch) (D : va_G) (cI cJ : ClassId) (a : Nat → Nat) (me n f : Nat) (u : NS)   (sz : Nat) : MWv l y_N_comeUp (wsM y_N_comeUp b_N_comeUp 1 none) { frames := 0, cells := 0, slots := 0, locals := 0 } D vwK (tyl cI cJ) (nW cI cJ a me n f u) (nW cI cJ a me n f (sCo u 0)) sz [.ref (a 0)] := by
  refine gj_enterW (own := R_N) (by decide) rfl (Nat.le_of_ble_eq_true rfl) rfl rfl (fun p e s m below meth c cx hr hlk hK hsz => ?_)
  have hA : ∀ q, s.heap.size ≤ q → va_A (nW cI cJ a me n f u) sz q := fun q h => Or.inr (hsz ▸ h)
  refine gj_aload_n (pc := 0) cx d_N_comeUp_0 rfl (x := a 0) rfl ?_
  refine gj_iconst (pc := 1) cx d_N_comeUp_1 (v := nI 0) (by decide) ?_
  refine gj_put (pc := 2) (ci := 0) (C := R_N) (T := T_N) (N := 12) (ty := .int) (v := .int (nI 0)) (ws' := nW cI cJ a me n f (0, nFu u, nSu u, nSa u, nCn u, nFr u, nBa u, nTo u, nAc u)) cx hK in_N ty_N ty_N_ok nm_N d_N_comeUp_2 0 rfl rfl 3 (by decide) (in_WT wm_36) rfl (by decide +kernel) rfl rfl (Nat.le_of_ble_eq_true rfl) rfl ?_
  exact gj_vretW (pc := 5) cx hr hlk d_N_comeUp_5 (rfl)

set_option maxRecDepth 100000 in
set_option maxHeartbeats 4000000 in
theorem c_N_setFuse (l : Launch) (D : va_G) (cI cJ : ClassId) (a : Nat → Nat) (me n f : Nat) (u : NS) (k : Nat)  (sz : Nat) : MWv l y_N_setFuse (wsM y_N_setFuse b_N_setFuse 2 none) { frames := 0, cells := 0, slots := 0, locals := 0 } D vwK (tyl cI cJ) (nW cI cJ a me n f u) (nW cI cJ a me n f (sFu u k)) sz [.ref (a 0), .int (nI k)] := by
  refine gj_enterW (own := R_N) (by decide) rfl (Nat.le_of_ble_eq_true rfl) rfl rfl (fun p e s m below meth c cx hr hlk hK hsz => ?_)
  have hA : ∀ q, s.heap.size ≤ q → va_A (nW cI cJ a me n f u) sz q := fun q h => Or.inr (hsz ▸ h)
  refine gj_aload_n (pc := 0) cx d_N_setFuse_0 rfl (x := a 0) rfl ?_
  refine gj_iload_n (pc := 1) cx d_N_setFuse_1 rfl (x := nI k) rfl ?_
  refine gj_put (pc := 2) (ci := 0) (C := R_N) (T := T_N) (N := 12) (ty := .int) (v := .int (nI k)) (ws' := nW cI cJ a me n f (nCo u, k, nSu u, nSa u, nCn u, nFr u, nBa u, nTo u, nAc u)) cx hK in_N ty_N ty_N_ok nm_N d_N_setFuse_2 0 rfl rfl 4 (by decide) (in_WT wm_37) rfl (by decide +kernel) rfl rfl (Nat.le_of_ble_eq_true rfl) rfl ?_
  exact gj_vretW (pc := 5) cx hr hlk d_N_setFuse_5 (rfl)

set_option maxRecDepth 100000 in
set_option maxHeartbeats 4000000 in
theorem c_N_goDown (l : Launch) (D : va_G) (cI cJ : ClassId) (a : Nat → Nat) (me n f : Nat) (u : NS)   (sz : Nat) : MWv l y_N_goDown (wsM y_N_goDown b_N_goDown 1 none) { frames := 1, cells := 0, slots := 0, locals := 24 } D vwK (tyl cI cJ) (nW cI cJ a me n f u) (nW cI cJ a me n f (nDown u)) sz [.ref (a 0)] := by
  refine gj_enterW (own := R_N) (by decide) rfl (Nat.le_of_ble_eq_true rfl) rfl rfl (fun p e s m below meth c cx hr hlk hK hsz => ?_)
  have hA : ∀ q, s.heap.size ≤ q → va_A (nW cI cJ a me n f u) sz q := fun q h => Or.inr (hsz ▸ h)
  refine gj_aload_n (pc := 0) cx d_N_goDown_0 rfl (x := a 0) rfl ?_
  refine gj_iconst (pc := 1) cx d_N_goDown_1 (v := nI 1) (by decide) ?_
  refine gj_put (pc := 2) (ci := 0) (C := R_N) (T := T_N) (N := 12) (ty := .int) (v := .int (nI 1)) (ws' := nW cI cJ a me n f (1, nFu u, nSu u, nSa u, nCn u, nFr u, nBa u, nTo u, nAc u)) cx hK in_N ty_N ty_N_ok nm_N d_N_goDown_2 0 rfl rfl 3 (by decide) (in_WT wm_36) rfl (by decide +kernel) rfl rfl (Nat.le_of_ble_eq_true rfl) rfl ?_
  refine gj_aload_n (pc := 5) cx d_N_goDown_5 rfl (x := a 0) rfl ?_
  refine gj_iconst (pc := 6) cx d_N_goDown_6 (v := nI 0) (by decide) ?_
  refine gj_put (pc := 7) (ci := 0) (C := R_N) (T := T_N) (N := 12) (ty := .int) (v := .int (nI 0)) (ws' := nW cI cJ a me n f (1, 0, nSu u, nSa u, nCn u, nFr u, nBa u, nTo u, nAc u)) cx hK in_N ty_N ty_N_ok nm_N d_N_goDown_7 0 rfl rfl 4 (by decide) (in_WT wm_37) rfl (by decide +kernel) rfl rfl (Nat.le_of_ble_eq_true rfl) rfl ?_
  refine gj_aload_n (pc := 10) cx d_N_goDown_10 rfl (x := a 0) rfl ?_
  refine gj_get (pc := 11) (ci := 0) (C := R_N) (T := T_N) (N := 12) (v := .ref (a 5)) cx hK gj_wP in_N d_N_goDown_11 0 rfl rfl 10 (by decide) (in_WT wm_43) rfl ?_
  refine gj_ldc2 (pc := 14) cx d_N_goDown_14 (v := (-1)) (in_WT wm_29) ?_
  refine gj_callSWv (pc := 17) (As := [.ref (a 5), .long (-1)]) (rest := []) (wc := [(a 5, .inl (cJ, 987, .inr (.inl (nTo u))))]) (wc' := [(a 5, .inl (cJ, 987, .inr (.inl (fun _ => (-1)))))]) (ws' := nW cI cJ a me n f (1, 0, nSu u, nSa u, nCn u, nFr u, nBa u, (fun _ => (-1)), nAc u)) cx hK hA (fun sz => c_JA_fill l D (tyl cI cJ) 1 cJ rfl (a 5) 987 (by decide) (nTo u) (-1) sz) (va_cwS 2 cx.2.2.2.2 (good_S wm_32 wm_30 wm_31 wm_4) rfl rfl rfl (by decide +kernel) ⟨Nat.le_of_ble_eq_true rfl, Nat.le_of_ble_eq_true rfl⟩) (gj_J.one (k := 5) rfl) rfl rfl (Nat.le_of_ble_eq_true rfl) d_N_goDown_17 ⟨Nat.zero_le _, Nat.zero_le _⟩ ?_
  refine gj_aload_n (pc := 20) cx d_N_goDown_20 rfl (x := a 0) rfl ?_
  refine gj_get (pc := 21) (ci := 0) (C := R_N) (T := T_N) (N := 12) (v := .ref (a 6)) cx hK gj_wP in_N d_N_goDown_21 0 rfl rfl 11 (by decide) (in_WT wm_44) rfl ?_
  refine gj_ldc2 (pc := 24) cx d_N_goDown_24 (v := (-1)) (in_WT wm_29) ?_
  refine gj_callSWv (pc := 27) (As := [.ref (a 6), .long (-1)]) (rest := []) (wc := [(a 6, .inl (cJ, 35, .inr (.inl (nAc u))))]) (wc' := [(a 6, .inl (cJ, 35, .inr (.inl (fun _ => (-1)))))]) (ws' := nW cI cJ a me n f (1, 0, nSu u, nSa u, nCn u, nFr u, nBa u, (fun _ => (-1)), (fun _ => (-1)))) cx hK hA (fun sz => c_JA_fill l D (tyl cI cJ) 1 cJ rfl (a 6) 35 (by decide) (nAc u) (-1) sz) (va_cwS 2 cx.2.2.2.2 (good_S wm_32 wm_30 wm_31 wm_4) rfl rfl rfl (by decide +kernel) ⟨Nat.le_of_ble_eq_true rfl, Nat.le_of_ble_eq_true rfl⟩) (gj_J.one (k := 6) rfl) rfl rfl (Nat.le_of_ble_eq_true rfl) d_N_goDown_27 ⟨Nat.zero_le _, Nat.zero_le _⟩ ?_
  exact gj_vretW (pc := 30) cx hr hlk d_N_goDown_30 (rfl)

set_option maxRecDepth 100000 in
set_option maxHeartbeats 4000000 in
theorem c_N_write (l : Launch) (D : va_G) (cI cJ : ClassId) (a : Nat → Nat) (me n f : Nat) (u : NS) (t : Nat) (pp : Int64) (hok : nOk u) (ht : t < 141) (sz : Nat) : MWi l y_N_write (wsM y_N_write b_N_write 4 (some .boolean)) { frames := 2, cells := 0, slots := 0, locals := 44 } D vwK (tyl cI cJ) (nW cI cJ a me n f u) (nW cI cJ a me n f (nWr u t pp)) sz [.ref (a 0), .int (nI t), .long pp] (bI (nWrB u)) := by
  obtain ⟨hco, hfu, hsu, hcn, hfr⟩ := id hok
  refine gj_enterW (own := R_N) (by decide) rfl (Nat.le_of_ble_eq_true rfl) rfl rfl (fun p e s m below meth c cx hr hlk hK hsz => ?_)
  have hA : ∀ q, s.heap.size ≤ q → va_A (nW cI cJ a me n f u) sz q := fun q h => Or.inr (hsz ▸ h)
  refine gj_aload_n (pc := 0) cx d_N_write_0 rfl (x := a 0) rfl ?_
  refine gj_get (pc := 1) (ci := 0) (C := R_N) (T := T_N) (N := 12) (v := .int (nI (nFu u))) cx hK gj_wP in_N d_N_write_1 0 rfl rfl 4 (by decide) (in_WT wm_37) rfl ?_
  refine gj_iconst (pc := 4) cx d_N_write_4 (v := nI 1) (by decide) ?_
  refine gj_icmp_neN (pc := 5) cx d_N_write_5 (tgt := 14) rfl (by omega) (by omega) (fun hb1 => ?_) (fun hb1 => ?_)
  · refine gj_aload_n (pc := 14) cx d_N_write_14 rfl (x := a 0) rfl ?_
    refine gj_iconst (pc := 15) cx d_N_write_15 (v := nI 0) (by decide) ?_
    refine gj_aload_n (pc := 16) cx d_N_write_16 rfl (x := a 0) rfl ?_
    refine gj_get (pc := 17) (ci := 0) (C := R_N) (T := T_N) (N := 12) (v := .int (nI (nFu u))) cx hK gj_wP in_N d_N_write_17 0 rfl rfl 4 (by decide) (in_WT wm_37) rfl ?_
    refine gj_iconst (pc := 20) cx d_N_write_20 (v := nI 1) (by decide) ?_
    refine gj_isub (pc := 21) cx d_N_write_21 ?_
    refine gj_mmax (pc := 22) cx d_N_write_22 (in_WT wm_115) (in_WT wm_21) (in_WT wm_2) (in_WT wm_22) (Nat.le_of_ble_eq_true rfl) (Nat.le_of_ble_eq_true rfl) (Nat.zero_le _) (Nat.zero_le _) ?_
    refine gj_toi (y := nI (nFu u - 1)) (fuse_max hfu) ?_
    refine gj_put (pc := 25) (ci := 0) (C := R_N) (T := T_N) (N := 12) (ty := .int) (v := .int (nI (nFu u - 1))) (ws' := nW cI cJ a me n f (nCo u, nFu u - 1, nSu u, nSa u, nCn u, nFr u, nBa u, nTo u, nAc u)) cx hK in_N ty_N ty_N_ok nm_N d_N_write_25 0 rfl rfl 4 (by decide) (in_WT wm_37) rfl (by decide +kernel) rfl rfl (Nat.le_of_ble_eq_true rfl) rfl ?_
    refine gj_aload_n (pc := 28) cx d_N_write_28 rfl (x := a 0) rfl ?_
    refine gj_get (pc := 29) (ci := 0) (C := R_N) (T := T_N) (N := 12) (v := .ref (a 1)) cx hK gj_wP in_N d_N_write_29 0 rfl rfl 6 (by decide) (in_WT wm_39) rfl ?_
    refine gj_iload_n (pc := 32) cx d_N_write_32 rfl (x := nI t) rfl ?_
    refine gj_lload_n (pc := 33) cx d_N_write_33 rfl (x := pp) rfl ?_
    refine gj_last (pc := 34) (i := t) (f := nSa u) (x := pp) (ws' := nW cI cJ a me n f (nCo u, nFu u - 1, nSu u, va_up (nSa u) t pp, nCn u, nFr u, nBa u, nTo u, nAc u)) cx hK d_N_write_34 1 1 rfl rfl (by omega) (by decide) rfl ?_
    refine gj_iconst (pc := 35) cx d_N_write_35 (v := nI 1) (by decide) ?_
    exact gj_zretW (pc := 36) cx hr hlk d_N_write_36 rfl (by simp [nWrB, hb1]; rfl) (by rw [show nWr u t pp = sSa (sFu u (nFu u - 1)) (va_up (nSa u) t pp) from if_neg hb1])
  · refine gj_aload_n (pc := 8) cx d_N_write_8 rfl (x := a 0) rfl ?_
    refine gj_callVWv (pc := 9) (As := []) (rest := []) (ws' := nW cI cJ a me n f (nDown u)) cx hK hA (fun sz => c_N_goDown l D cI cJ a me n f u   sz) (cwV 0 cx.2.2.2.2 (good_V wm_114 wm_111 wm_112 wm_113 wm_3) rfl rfl rfl (by decide +kernel) ⟨Nat.le_of_ble_eq_true rfl, Nat.le_of_ble_eq_true rfl⟩) gj_J.self 0 0 rfl rfl rfl rfl rfl (Nat.le_of_ble_eq_true rfl) d_N_write_9 ⟨Nat.zero_le _, Nat.zero_le _⟩ ?_
    refine gj_iconst (pc := 12) cx d_N_write_12 (v := nI 0) (by decide) ?_
    exact gj_zretW (pc := 13) cx hr hlk d_N_write_13 rfl (by simp [nWrB, hb1]; rfl) (by rw [show nWr u t pp = nDown u from if_pos hb1])

set_option maxRecDepth 100000 in
set_option maxHeartbeats 4000000 in
theorem c_N_countTellers (l : Launch) (D : va_G) (cI cJ : ClassId) (a : Nat → Nat) (me n f : Nat) (u : NS) (t : Nat) (hn : n ≤ 7) (ht : t < 141) : MRi l y_N_countTellers (wsM y_N_countTellers b_N_countTellers 4 (some .int)) { frames := 0, cells := 0, slots := 0, locals := 0 } D vwK (tyl cI cJ) (nW cI cJ a me n f u) [.ref (a 0), .int (nI t)] (nI (nTell u t n)) := by
  refine gj_enterR (own := R_N) (by decide) rfl (Nat.le_of_ble_eq_true rfl) rfl rfl (fun p e s m below meth c cx hr hlk hK => ?_)
  refine gj_iconst (pc := 0) cx d_N_countTellers_0 (v := nI 0) (by decide) ?_
  refine gj_istore_n (pc := 1) cx d_N_countTellers_1 rfl (lo' := [(2, .int (nI 0)), (0, .ref (a 0)), (1, .int (nI t))]) (by decide) rfl ?_
  refine gj_iconst (pc := 2) cx d_N_countTellers_2 (v := nI 0) (by decide) ?_
  refine gj_istore_n (pc := 3) cx d_N_countTellers_3 rfl (lo' := [(3, .int (nI 0)), (2, .int (nI 0)), (0, .ref (a 0)), (1, .int (nI t))]) (by decide) rfl ?_
  refine gj_pick (lo' := [(0, .ref (a 0)), (1, .int (nI t)), (2, .int (nI 0)), (3, .int (nI 0))]) [2, 3, 1, 0] rfl ?_
  refine gj_forG (G := Gj p l e _ s m _ below meth c _ _ _ _ _) n 4 (fun i => [(0, .ref (a 0)), (1, .int (nI t)), (2, .int (nI (cntB (fun y => decide (nTo u (t * 7 + y) ≠ -1)) i))), (3, .int (nI i))]) (fun i => nW cI cJ a me n f u) (fun i hi ihi => ?_) 0 (by omega)
  refine gj_iload_n (pc := 4) cx d_N_countTellers_4 rfl (x := nI i) rfl ?_
  refine gj_aload_n (pc := 5) cx d_N_countTellers_5 rfl (x := a 0) rfl ?_
  refine gj_get (pc := 6) (ci := 0) (C := R_N) (T := T_N) (N := 12) (v := .int (nI n)) cx hK gj_rP in_N d_N_countTellers_6 0 rfl rfl 1 (by decide) (in_WT wm_34) rfl ?_
  refine gj_icmp_geN (pc := 9) cx d_N_countTellers_9 (tgt := 39) rfl (by omega) (by omega) (fun hb1 => ?_) (fun hb1 => ?_)
  · refine gj_iload_n (pc := 39) cx d_N_countTellers_39 rfl (x := nI (cntB (fun y => decide (nTo u (t * 7 + y) ≠ -1)) i)) rfl ?_
    exact gj_iretR (pc := 40) cx hr hlk d_N_countTellers_40 (by rw [show i = n from (by omega)]; rfl)
  · refine gj_aload_n (pc := 12) cx d_N_countTellers_12 rfl (x := a 0) rfl ?_
    refine gj_get (pc := 13) (ci := 0) (C := R_N) (T := T_N) (N := 12) (v := .ref (a 5)) cx hK gj_rP in_N d_N_countTellers_13 0 rfl rfl 10 (by decide) (in_WT wm_43) rfl ?_
    refine gj_iload_n (pc := 16) cx d_N_countTellers_16 rfl (x := nI t) rfl ?_
    refine gj_bipush (pc := 17) cx d_N_countTellers_17 (v := nI 7) (by decide) ?_
    refine gj_imulN (pc := 19) cx d_N_countTellers_19 ?_
    refine gj_iload_n (pc := 20) cx d_N_countTellers_20 rfl (x := nI i) rfl ?_
    refine gj_iaddN (pc := 21) cx d_N_countTellers_21 ?_
    refine gj_lald (pc := 22) (i := (t * 7) + i) (f := nTo u) cx hK gj_rP d_N_countTellers_22 5 1 rfl rfl (by omega) (by decide) ?_
    refine gj_ldc2 (pc := 23) cx d_N_countTellers_23 (v := (-1)) (in_WT wm_29) ?_
    refine gj_lcmp_eq (pc := 26) cx d_N_countTellers_26 d_N_countTellers_27 (tgt := 33) rfl (fun hb2 => ?_) (fun hb2 => ?_)
    · refine gj_iincN (pc := 33) cx d_N_countTellers_33 (k := 3) (d := 1) (lo' := [(3, .int (nI (i + 1))), (0, .ref (a 0)), (1, .int (nI t)), (2, .int (nI (cntB (fun y => decide (nTo u (t * 7 + y) ≠ -1)) i)))]) rfl (by decide) (by decide) rfl ?_
      refine gj_goto (pc := 36) cx d_N_countTellers_36 (tgt := 4) rfl ?_
      refine gj_pick (lo' := [(0, .ref (a 0)), (1, .int (nI t)), (2, .int (nI (cntB (fun y => decide (nTo u (t * 7 + y) ≠ -1)) i))), (3, .int (nI (i + 1)))]) [1, 2, 3, 0] rfl ?_
      exact gj_eq rfl (by simp [cntB, hb1, hb2]) rfl (rfl) (ihi (by omega))
    · refine gj_iincN (pc := 30) cx d_N_countTellers_30 (k := 2) (d := 1) (lo' := [(2, .int (nI ((cntB (fun y => decide (nTo u (t * 7 + y) ≠ -1)) i) + 1))), (0, .ref (a 0)), (1, .int (nI t)), (3, .int (nI i))]) rfl (by decide) (by decide) rfl ?_
      refine gj_iincN (pc := 33) cx d_N_countTellers_33 (k := 3) (d := 1) (lo' := [(3, .int (nI (i + 1))), (2, .int (nI ((cntB (fun y => decide (nTo u (t * 7 + y) ≠ -1)) i) + 1))), (0, .ref (a 0)), (1, .int (nI t))]) rfl (by decide) (by decide) rfl ?_
      refine gj_goto (pc := 36) cx d_N_countTellers_36 (tgt := 4) rfl ?_
      refine gj_pick (lo' := [(0, .ref (a 0)), (1, .int (nI t)), (2, .int (nI ((cntB (fun y => decide (nTo u (t * 7 + y) ≠ -1)) i) + 1))), (3, .int (nI (i + 1)))]) [2, 3, 1, 0] rfl ?_
      exact gj_eq rfl (by simp [cntB, hb1, hb2]) rfl (rfl) (ihi (by omega))

set_option maxRecDepth 100000 in
set_option maxHeartbeats 4000000 in
theorem c_N_countTellersOf (l : Launch) (D : va_G) (cI cJ : ClassId) (a : Nat → Nat) (me n f : Nat) (u : NS) (t : Nat) (pp : Int64) (hn : n ≤ 7) (ht : t < 141) : MRi l y_N_countTellersOf (wsM y_N_countTellersOf b_N_countTellersOf 6 (some .int)) { frames := 0, cells := 0, slots := 0, locals := 0 } D vwK (tyl cI cJ) (nW cI cJ a me n f u) [.ref (a 0), .int (nI t), .long pp] (nI (nTellOf u t pp n)) := by
  refine gj_enterR (own := R_N) (by decide) rfl (Nat.le_of_ble_eq_true rfl) rfl rfl (fun p e s m below meth c cx hr hlk hK => ?_)
  refine gj_iconst (pc := 0) cx d_N_countTellersOf_0 (v := nI 0) (by decide) ?_
  refine gj_istore (pc := 1) cx d_N_countTellersOf_1 (lo' := [(4, .int (nI 0)), (0, .ref (a 0)), (1, .int (nI t)), (2, .long pp)]) (by decide) rfl ?_
  refine gj_iconst (pc := 3) cx d_N_countTellersOf_3 (v := nI 0) (by decide) ?_
  refine gj_istore (pc := 4) cx d_N_countTellersOf_4 (lo' := [(5, .int (nI 0)), (4, .int (nI 0)), (0, .ref (a 0)), (1, .int (nI t)), (2, .long pp)]) (by decide) rfl ?_
  refine gj_pick (lo' := [(0, .ref (a 0)), (1, .int (nI t)), (2, .long pp), (4, .int (nI 0)), (5, .int (nI 0))]) [2, 3, 4, 1, 0] rfl ?_
  refine gj_forG (G := Gj p l e _ s m _ below meth c _ _ _ _ _) n 6 (fun i => [(0, .ref (a 0)), (1, .int (nI t)), (2, .long pp), (4, .int (nI (cntB (fun y => decide (nTo u (t * 7 + y) = pp)) i))), (5, .int (nI i))]) (fun i => nW cI cJ a me n f u) (fun i hi ihi => ?_) 0 (by omega)
  refine gj_iload (pc := 6) cx d_N_countTellersOf_6 (x := nI i) rfl ?_
  refine gj_aload_n (pc := 8) cx d_N_countTellersOf_8 rfl (x := a 0) rfl ?_
  refine gj_get (pc := 9) (ci := 0) (C := R_N) (T := T_N) (N := 12) (v := .int (nI n)) cx hK gj_rP in_N d_N_countTellersOf_9 0 rfl rfl 1 (by decide) (in_WT wm_34) rfl ?_
  refine gj_icmp_geN (pc := 12) cx d_N_countTellersOf_12 (tgt := 41) rfl (by omega) (by omega) (fun hb1 => ?_) (fun hb1 => ?_)
  · refine gj_iload (pc := 41) cx d_N_countTellersOf_41 (x := nI (cntB (fun y => decide (nTo u (t * 7 + y) = pp)) i)) rfl ?_
    exact gj_iretR (pc := 43) cx hr hlk d_N_countTellersOf_43 (by rw [show i = n from (by omega)]; rfl)
  · refine gj_aload_n (pc := 15) cx d_N_countTellersOf_15 rfl (x := a 0) rfl ?_
    refine gj_get (pc := 16) (ci := 0) (C := R_N) (T := T_N) (N := 12) (v := .ref (a 5)) cx hK gj_rP in_N d_N_countTellersOf_16 0 rfl rfl 10 (by decide) (in_WT wm_43) rfl ?_
    refine gj_iload_n (pc := 19) cx d_N_countTellersOf_19 rfl (x := nI t) rfl ?_
    refine gj_bipush (pc := 20) cx d_N_countTellersOf_20 (v := nI 7) (by decide) ?_
    refine gj_imulN (pc := 22) cx d_N_countTellersOf_22 ?_
    refine gj_iload (pc := 23) cx d_N_countTellersOf_23 (x := nI i) rfl ?_
    refine gj_iaddN (pc := 25) cx d_N_countTellersOf_25 ?_
    refine gj_lald (pc := 26) (i := (t * 7) + i) (f := nTo u) cx hK gj_rP d_N_countTellersOf_26 5 1 rfl rfl (by omega) (by decide) ?_
    refine gj_lload_n (pc := 27) cx d_N_countTellersOf_27 rfl (x := pp) rfl ?_
    refine gj_lcmp_ne (pc := 28) cx d_N_countTellersOf_28 d_N_countTellersOf_29 (tgt := 35) rfl (fun hb2 => ?_) (fun hb2 => ?_)
    · refine gj_iincN (pc := 35) cx d_N_countTellersOf_35 (k := 4) (d := 1) (lo' := [(5, .int (nI (i + 1))), (0, .ref (a 0)), (1, .int (nI t)), (2, .long pp), (4, .int (nI (cntB (fun y => decide (nTo u (t * 7 + y) = pp)) i)))]) rfl (by decide) (by decide) rfl ?_
      refine gj_goto (pc := 38) cx d_N_countTellersOf_38 (tgt := 6) rfl ?_
      refine gj_pick (lo' := [(0, .ref (a 0)), (1, .int (nI t)), (2, .long pp), (4, .int (nI (cntB (fun y => decide (nTo u (t * 7 + y) = pp)) i))), (5, .int (nI (i + 1)))]) [1, 2, 3, 4, 0] rfl ?_
      exact gj_eq rfl (by simp [cntB, hb1, hb2]) rfl (rfl) (ihi (by omega))
    · refine gj_iincN (pc := 32) cx d_N_countTellersOf_32 (k := 3) (d := 1) (lo' := [(4, .int (nI ((cntB (fun y => decide (nTo u (t * 7 + y) = pp)) i) + 1))), (0, .ref (a 0)), (1, .int (nI t)), (2, .long pp), (5, .int (nI i))]) rfl (by decide) (by decide) rfl ?_
      refine gj_iincN (pc := 35) cx d_N_countTellersOf_35 (k := 4) (d := 1) (lo' := [(5, .int (nI (i + 1))), (4, .int (nI ((cntB (fun y => decide (nTo u (t * 7 + y) = pp)) i) + 1))), (0, .ref (a 0)), (1, .int (nI t)), (2, .long pp)]) rfl (by decide) (by decide) rfl ?_
      refine gj_goto (pc := 38) cx d_N_countTellersOf_38 (tgt := 6) rfl ?_
      refine gj_pick (lo' := [(0, .ref (a 0)), (1, .int (nI t)), (2, .long pp), (4, .int (nI ((cntB (fun y => decide (nTo u (t * 7 + y) = pp)) i) + 1))), (5, .int (nI (i + 1)))]) [2, 3, 4, 1, 0] rfl ?_
      exact gj_eq rfl (by simp [cntB, hb1, hb2]) rfl (rfl) (ihi (by omega))

set_option maxRecDepth 100000 in
set_option maxHeartbeats 4000000 in
theorem c_N_keeps (l : Launch) (D : va_G) (cI cJ : ClassId) (a : Nat → Nat) (me n f : Nat) (u : NS) (i : Nat) (hn : n ≤ 7) (hi : i < 35) : MRi l y_N_keeps (wsM y_N_keeps b_N_keeps 2 (some .boolean)) { frames := 1, cells := 0, slots := 0, locals := 23 } D vwK (tyl cI cJ) (nW cI cJ a me n f u) [.ref (a 0), .int (nI i)] (bI (nKeep u n i)) := by
  refine gj_enterR (own := R_N) (by decide) rfl (Nat.le_of_ble_eq_true rfl) rfl rfl (fun p e s m below meth c cx hr hlk hK => ?_)
  refine gj_aload_n (pc := 0) cx d_N_keeps_0 rfl (x := a 0) rfl ?_
  refine gj_get (pc := 1) (ci := 0) (C := R_N) (T := T_N) (N := 12) (v := .ref (a 1)) cx hK gj_rP in_N d_N_keeps_1 0 rfl rfl 6 (by decide) (in_WT wm_39) rfl ?_
  refine gj_iconst (pc := 4) cx d_N_keeps_4 (v := nI 1) (by decide) ?_
  refine gj_iload_n (pc := 5) cx d_N_keeps_5 rfl (x := nI i) rfl ?_
  refine gj_callSRi (pc := 6) (As := [.int (nI 1), .int (nI i)]) (rest := [.ref (a 1)]) (v := nI (35 + i)) cx hK (c_T_at l D (tyl cI cJ) 1 i ) (va_cwS 2 cx.2.2.2.2 (good_S wm_178 wm_176 wm_177 wm_6) rfl rfl rfl (by decide +kernel) ⟨Nat.le_of_ble_eq_true rfl, Nat.le_of_ble_eq_true rfl⟩) (fun _ _ _ => gj_P0) rfl rfl (Nat.le_of_ble_eq_true rfl) d_N_keeps_6 ⟨Nat.zero_le _, Nat.zero_le _⟩ ?_
  refine gj_lald (pc := 9) (i := 35 + i) (f := nSa u) cx hK gj_rP d_N_keeps_9 1 1 rfl rfl (by omega) (by decide) ?_
  refine gj_ldc2 (pc := 10) cx d_N_keeps_10 (v := (-1)) (in_WT wm_29) ?_
  refine gj_lcmp_ne (pc := 13) cx d_N_keeps_13 d_N_keeps_14 (tgt := 34) rfl (fun hb1 => ?_) (fun hb1 => ?_)
  · refine gj_iconst (pc := 34) cx d_N_keeps_34 (v := nI 1) (by decide) ?_
    exact gj_zretR (pc := 35) cx hr hlk d_N_keeps_35 rfl (by simp [nKeep, bI, nI, hb1])
  · refine gj_aload_n (pc := 17) cx d_N_keeps_17 rfl (x := a 0) rfl ?_
    refine gj_get (pc := 18) (ci := 0) (C := R_N) (T := T_N) (N := 12) (v := .ref (a 1)) cx hK gj_rP in_N d_N_keeps_18 0 rfl rfl 6 (by decide) (in_WT wm_39) rfl ?_
    refine gj_iconst (pc := 21) cx d_N_keeps_21 (v := nI 2) (by decide) ?_
    refine gj_iload_n (pc := 22) cx d_N_keeps_22 rfl (x := nI i) rfl ?_
    refine gj_callSRi (pc := 23) (As := [.int (nI 2), .int (nI i)]) (rest := [.ref (a 1)]) (v := nI (70 + i)) cx hK (c_T_at l D (tyl cI cJ) 2 i ) (va_cwS 2 cx.2.2.2.2 (good_S wm_178 wm_176 wm_177 wm_6) rfl rfl rfl (by decide +kernel) ⟨Nat.le_of_ble_eq_true rfl, Nat.le_of_ble_eq_true rfl⟩) (fun _ _ _ => gj_P0) rfl rfl (Nat.le_of_ble_eq_true rfl) d_N_keeps_23 ⟨Nat.zero_le _, Nat.zero_le _⟩ ?_
    refine gj_lald (pc := 26) (i := 70 + i) (f := nSa u) cx hK gj_rP d_N_keeps_26 1 1 rfl rfl (by omega) (by decide) ?_
    refine gj_ldc2 (pc := 27) cx d_N_keeps_27 (v := (-1)) (in_WT wm_29) ?_
    refine gj_lcmp_eq (pc := 30) cx d_N_keeps_30 d_N_keeps_31 (tgt := 36) rfl (fun hb2 => ?_) (fun hb2 => ?_)
    · refine gj_aload_n (pc := 36) cx d_N_keeps_36 rfl (x := a 0) rfl ?_
      refine gj_iconst (pc := 37) cx d_N_keeps_37 (v := nI 1) (by decide) ?_
      refine gj_iload_n (pc := 38) cx d_N_keeps_38 rfl (x := nI i) rfl ?_
      refine gj_callSRi (pc := 39) (As := [.int (nI 1), .int (nI i)]) (rest := [.ref (a 0)]) (v := nI (35 + i)) cx hK (c_T_at l D (tyl cI cJ) 1 i ) (va_cwS 2 cx.2.2.2.2 (good_S wm_178 wm_176 wm_177 wm_6) rfl rfl rfl (by decide +kernel) ⟨Nat.le_of_ble_eq_true rfl, Nat.le_of_ble_eq_true rfl⟩) (fun _ _ _ => gj_P0) rfl rfl (Nat.le_of_ble_eq_true rfl) d_N_keeps_39 ⟨Nat.zero_le _, Nat.zero_le _⟩ ?_
      refine gj_callVRi (pc := 42) (As := [.int (nI (35 + i))]) (rest := []) (v := nI (nTell u (35 + i) n)) cx hK (c_N_countTellers l D cI cJ a me n f u (35 + i) (by omega) (by omega)) (cwV 1 cx.2.2.2.2 (good_V wm_284 wm_329 wm_282 wm_283 wm_3) rfl rfl rfl (by decide +kernel) ⟨Nat.le_of_ble_eq_true rfl, Nat.le_of_ble_eq_true rfl⟩) gj_rP 0 0 rfl rfl rfl rfl rfl (Nat.le_of_ble_eq_true rfl) d_N_keeps_42 ⟨Nat.zero_le _, Nat.zero_le _⟩ ?_
      have hv3 := nTell_lt u (35 + i) n
      refine gj_if_gtN (pc := 45) cx d_N_keeps_45 (tgt := 72) rfl (by omega) (fun hb4 => ?_) (fun hb4 => ?_)
      · refine gj_iconst (pc := 72) cx d_N_keeps_72 (v := nI 1) (by decide) ?_
        refine gj_goto (pc := 73) cx d_N_keeps_73 (tgt := 77) rfl ?_
        exact gj_zretR (pc := 77) cx hr hlk d_N_keeps_77 rfl (by simp [nKeep, bI, nI, hb1, hb2, hb4])
      · refine gj_aload_n (pc := 48) cx d_N_keeps_48 rfl (x := a 0) rfl ?_
        refine gj_iconst (pc := 49) cx d_N_keeps_49 (v := nI 2) (by decide) ?_
        refine gj_iload_n (pc := 50) cx d_N_keeps_50 rfl (x := nI i) rfl ?_
        refine gj_callSRi (pc := 51) (As := [.int (nI 2), .int (nI i)]) (rest := [.ref (a 0)]) (v := nI (70 + i)) cx hK (c_T_at l D (tyl cI cJ) 2 i ) (va_cwS 2 cx.2.2.2.2 (good_S wm_178 wm_176 wm_177 wm_6) rfl rfl rfl (by decide +kernel) ⟨Nat.le_of_ble_eq_true rfl, Nat.le_of_ble_eq_true rfl⟩) (fun _ _ _ => gj_P0) rfl rfl (Nat.le_of_ble_eq_true rfl) d_N_keeps_51 ⟨Nat.zero_le _, Nat.zero_le _⟩ ?_
        refine gj_callVRi (pc := 54) (As := [.int (nI (70 + i))]) (rest := []) (v := nI (nTell u (70 + i) n)) cx hK (c_N_countTellers l D cI cJ a me n f u (70 + i) (by omega) (by omega)) (cwV 1 cx.2.2.2.2 (good_V wm_284 wm_329 wm_282 wm_283 wm_3) rfl rfl rfl (by decide +kernel) ⟨Nat.le_of_ble_eq_true rfl, Nat.le_of_ble_eq_true rfl⟩) gj_rP 0 0 rfl rfl rfl rfl rfl (Nat.le_of_ble_eq_true rfl) d_N_keeps_54 ⟨Nat.zero_le _, Nat.zero_le _⟩ ?_
        have hv5 := nTell_lt u (70 + i) n
        refine gj_if_gtN (pc := 57) cx d_N_keeps_57 (tgt := 72) rfl (by omega) (fun hb6 => ?_) (fun hb6 => ?_)
        · refine gj_iconst (pc := 72) cx d_N_keeps_72 (v := nI 1) (by decide) ?_
          refine gj_goto (pc := 73) cx d_N_keeps_73 (tgt := 77) rfl ?_
          exact gj_zretR (pc := 77) cx hr hlk d_N_keeps_77 rfl (by simp [nKeep, bI, nI, hb1, hb2, hb4, hb6])
        · refine gj_aload_n (pc := 60) cx d_N_keeps_60 rfl (x := a 0) rfl ?_
          refine gj_iconst (pc := 61) cx d_N_keeps_61 (v := nI 3) (by decide) ?_
          refine gj_iload_n (pc := 62) cx d_N_keeps_62 rfl (x := nI i) rfl ?_
          refine gj_callSRi (pc := 63) (As := [.int (nI 3), .int (nI i)]) (rest := [.ref (a 0)]) (v := nI (105 + i)) cx hK (c_T_at l D (tyl cI cJ) 3 i ) (va_cwS 2 cx.2.2.2.2 (good_S wm_178 wm_176 wm_177 wm_6) rfl rfl rfl (by decide +kernel) ⟨Nat.le_of_ble_eq_true rfl, Nat.le_of_ble_eq_true rfl⟩) (fun _ _ _ => gj_P0) rfl rfl (Nat.le_of_ble_eq_true rfl) d_N_keeps_63 ⟨Nat.zero_le _, Nat.zero_le _⟩ ?_
          refine gj_callVRi (pc := 66) (As := [.int (nI (105 + i))]) (rest := []) (v := nI (nTell u (105 + i) n)) cx hK (c_N_countTellers l D cI cJ a me n f u (105 + i) (by omega) (by omega)) (cwV 1 cx.2.2.2.2 (good_V wm_284 wm_329 wm_282 wm_283 wm_3) rfl rfl rfl (by decide +kernel) ⟨Nat.le_of_ble_eq_true rfl, Nat.le_of_ble_eq_true rfl⟩) gj_rP 0 0 rfl rfl rfl rfl rfl (Nat.le_of_ble_eq_true rfl) d_N_keeps_66 ⟨Nat.zero_le _, Nat.zero_le _⟩ ?_
          have hv7 := nTell_lt u (105 + i) n
          refine gj_if_leN (pc := 69) cx d_N_keeps_69 (tgt := 76) rfl (by omega) (fun hb8 => ?_) (fun hb8 => ?_)
          · refine gj_iconst (pc := 76) cx d_N_keeps_76 (v := nI 0) (by decide) ?_
            exact gj_zretR (pc := 77) cx hr hlk d_N_keeps_77 rfl (by simp [nKeep, bI, nI, hb1, hb2, hb4, hb6, hb8])
          · refine gj_iconst (pc := 72) cx d_N_keeps_72 (v := nI 1) (by decide) ?_
            refine gj_goto (pc := 73) cx d_N_keeps_73 (tgt := 77) rfl ?_
            exact gj_zretR (pc := 77) cx hr hlk d_N_keeps_77 rfl (by simp [nKeep, bI, nI, hb1, hb2, hb4, hb6, hb8])
    · refine gj_iconst (pc := 34) cx d_N_keeps_34 (v := nI 1) (by decide) ?_
      exact gj_zretR (pc := 35) cx hr hlk d_N_keeps_35 rfl (by simp [nKeep, bI, nI, hb1, hb2])

set_option maxRecDepth 100000 in
set_option maxHeartbeats 4000000 in
theorem c_N_countKept (l : Launch) (D : va_G) (cI cJ : ClassId) (a : Nat → Nat) (me n f : Nat) (u : NS)  (hn : n ≤ 7) : MRi l y_N_countKept (wsM y_N_countKept b_N_countKept 3 (some .int)) { frames := 2, cells := 0, slots := 0, locals := 44 } D vwK (tyl cI cJ) (nW cI cJ a me n f u) [.ref (a 0)] (nI (nKept u n)) := by
  refine gj_enterR (own := R_N) (by decide) rfl (Nat.le_of_ble_eq_true rfl) rfl rfl (fun p e s m below meth c cx hr hlk hK => ?_)
  refine gj_iconst (pc := 0) cx d_N_countKept_0 (v := nI 0) (by decide) ?_
  refine gj_istore_n (pc := 1) cx d_N_countKept_1 rfl (lo' := [(1, .int (nI 0)), (0, .ref (a 0))]) (by decide) rfl ?_
  refine gj_iconst (pc := 2) cx d_N_countKept_2 (v := nI 0) (by decide) ?_
  refine gj_istore_n (pc := 3) cx d_N_countKept_3 rfl (lo' := [(2, .int (nI 0)), (1, .int (nI 0)), (0, .ref (a 0))]) (by decide) rfl ?_
  refine gj_pick (lo' := [(0, .ref (a 0)), (1, .int (nI 0)), (2, .int (nI 0))]) [2, 1, 0] rfl ?_
  refine gj_forG (G := Gj p l e _ s m _ below meth c _ _ _ _ _) 35 4 (fun i => [(0, .ref (a 0)), (1, .int (nI (cntB (nKeep u n) i))), (2, .int (nI i))]) (fun i => nW cI cJ a me n f u) (fun i hi ihi => ?_) 0 (by omega)
  refine gj_iload_n (pc := 4) cx d_N_countKept_4 rfl (x := nI i) rfl ?_
  refine gj_bipush (pc := 5) cx d_N_countKept_5 (v := nI 35) (by decide) ?_
  refine gj_icmp_geN (pc := 7) cx d_N_countKept_7 (tgt := 27) rfl (by omega) (by omega) (fun hb1 => ?_) (fun hb1 => ?_)
  · refine gj_iload_n (pc := 27) cx d_N_countKept_27 rfl (x := nI (cntB (nKeep u n) i)) rfl ?_
    exact gj_iretR (pc := 28) cx hr hlk d_N_countKept_28 (by rw [show i = 35 from (by omega)]; rfl)
  · refine gj_aload_n (pc := 10) cx d_N_countKept_10 rfl (x := a 0) rfl ?_
    refine gj_iload_n (pc := 11) cx d_N_countKept_11 rfl (x := nI i) rfl ?_
    refine gj_callVRi (pc := 12) (As := [.int (nI i)]) (rest := []) (v := bI (nKeep u n i)) cx hK (c_N_keeps l D cI cJ a me n f u i (by omega) (by omega)) (cwV 1 cx.2.2.2.2 (good_V wm_328 wm_326 wm_327 wm_554 wm_3) rfl rfl rfl (by decide +kernel) ⟨Nat.le_of_ble_eq_true rfl, Nat.le_of_ble_eq_true rfl⟩) gj_rP 0 0 rfl rfl rfl rfl rfl (Nat.le_of_ble_eq_true rfl) d_N_countKept_12 ⟨Nat.zero_le _, Nat.zero_le _⟩ ?_
    refine gj_if_eqB (pc := 15) cx d_N_countKept_15 (tgt := 21) rfl (fun hb2 => ?_) (fun hb2 => ?_)
    · refine gj_iincN (pc := 21) cx d_N_countKept_21 (k := 2) (d := 1) (lo' := [(2, .int (nI (i + 1))), (0, .ref (a 0)), (1, .int (nI (cntB (nKeep u n) i)))]) rfl (by decide) (by decide) rfl ?_
      refine gj_goto (pc := 24) cx d_N_countKept_24 (tgt := 4) rfl ?_
      refine gj_pick (lo' := [(0, .ref (a 0)), (1, .int (nI (cntB (nKeep u n) i))), (2, .int (nI (i + 1)))]) [1, 2, 0] rfl ?_
      exact gj_eq rfl (by simp [cntB, hb1, hb2]) rfl (rfl) (ihi (by omega))
    · refine gj_iincN (pc := 18) cx d_N_countKept_18 (k := 1) (d := 1) (lo' := [(1, .int (nI ((cntB (nKeep u n) i) + 1))), (0, .ref (a 0)), (2, .int (nI i))]) rfl (by decide) (by decide) rfl ?_
      refine gj_iincN (pc := 21) cx d_N_countKept_21 (k := 2) (d := 1) (lo' := [(2, .int (nI (i + 1))), (1, .int (nI ((cntB (nKeep u n) i) + 1))), (0, .ref (a 0))]) rfl (by decide) (by decide) rfl ?_
      refine gj_goto (pc := 24) cx d_N_countKept_24 (tgt := 4) rfl ?_
      refine gj_pick (lo' := [(0, .ref (a 0)), (1, .int (nI ((cntB (nKeep u n) i) + 1))), (2, .int (nI (i + 1)))]) [2, 1, 0] rfl ?_
      exact gj_eq rfl (by simp [cntB, hb1, hb2]) rfl (rfl) (ihi (by omega))

set_option maxRecDepth 100000 in
set_option maxHeartbeats 4000000 in
theorem c_N_isWellFormed (l : Launch) (D : va_G) (cI cJ : ClassId) (a : Nat → Nat) (me n f : Nat) (u : NS) (t : Nat) (pp : Int64) (hn : n ≤ 7) (ht : t < 141) : MRi l y_N_isWellFormed (wsM y_N_isWellFormed b_N_isWellFormed 4 (some .boolean)) { frames := 3, cells := 0, slots := 0, locals := 68 } D vwK (tyl cI cJ) (nW cI cJ a me n f u) [.ref (a 0), .int (nI t), .long pp] (bI (nWf t pp n)) := by
  refine gj_enterR (own := R_N) (by decide) rfl (Nat.le_of_ble_eq_true rfl) rfl rfl (fun p e s m below meth c cx hr hlk hK => ?_)
  refine gj_iload_n (pc := 0) cx d_N_isWellFormed_0 rfl (x := nI t) rfl ?_
  refine gj_sipush (pc := 1) cx d_N_isWellFormed_1 (v := nI 140) (by decide) ?_
  refine gj_icmp_neN (pc := 4) cx d_N_isWellFormed_4 (tgt := 16) rfl (by omega) (by omega) (fun hb1 => ?_) (fun hb1 => ?_)
  · refine gj_lload_n (pc := 16) cx d_N_isWellFormed_16 rfl (x := pp) rfl ?_
    refine gj_iload_n (pc := 17) cx d_N_isWellFormed_17 rfl (x := nI t) rfl ?_
    refine gj_callSRi (pc := 18) (As := [.int (nI t)]) (rest := [.long pp]) (v := nI (t % 35 / 5)) cx hK (c_T_account l D (tyl cI cJ) t (by omega)) (va_cwS 1 cx.2.2.2.2 (good_S wm_154 wm_152 wm_153 wm_6) rfl rfl rfl (by decide +kernel) ⟨Nat.le_of_ble_eq_true rfl, Nat.le_of_ble_eq_true rfl⟩) (fun _ _ _ => gj_P0) rfl rfl (Nat.le_of_ble_eq_true rfl) d_N_isWellFormed_18 ⟨Nat.zero_le _, Nat.zero_le _⟩ ?_
    refine gj_aload_n (pc := 21) cx d_N_isWellFormed_21 rfl (x := a 0) rfl ?_
    refine gj_get (pc := 22) (ci := 0) (C := R_N) (T := T_N) (N := 12) (v := .int (nI n)) cx hK gj_rP in_N d_N_isWellFormed_22 0 rfl rfl 1 (by decide) (in_WT wm_34) rfl ?_
    refine gj_callSRi (pc := 25) (As := [.long pp, .int (nI (t % 35 / 5)), .int (nI n)]) (rest := []) (v := bI (wfP pp (t % 35 / 5) n)) cx hK (c_P_isWellFormed l D (tyl cI cJ) pp (t % 35 / 5) n (by omega) (by omega)) (va_cwS 3 cx.2.2.2.2 (good_S wm_157 wm_155 wm_156 wm_7) rfl rfl rfl (by decide +kernel) ⟨Nat.le_of_ble_eq_true rfl, Nat.le_of_ble_eq_true rfl⟩) (fun _ _ _ => gj_P0) rfl rfl (Nat.le_of_ble_eq_true rfl) d_N_isWellFormed_25 ⟨Nat.zero_le _, Nat.zero_le _⟩ ?_
    exact gj_zretR (pc := 28) cx hr hlk d_N_isWellFormed_28 (bI_n _) (by simp [nWf, hb1])
  · refine gj_lload_n (pc := 7) cx d_N_isWellFormed_7 rfl (x := pp) rfl ?_
    refine gj_aload_n (pc := 8) cx d_N_isWellFormed_8 rfl (x := a 0) rfl ?_
    refine gj_get (pc := 9) (ci := 0) (C := R_N) (T := T_N) (N := 12) (v := .int (nI n)) cx hK gj_rP in_N d_N_isWellFormed_9 0 rfl rfl 1 (by decide) (in_WT wm_34) rfl ?_
    refine gj_callSRi (pc := 12) (As := [.long pp, .int (nI n)]) (rest := []) (v := bI (isMk pp n)) cx hK (c_P_isMark l D (tyl cI cJ) pp n (by omega)) (va_cwS 2 cx.2.2.2.2 (good_S wm_148 wm_146 wm_147 wm_7) rfl rfl rfl (by decide +kernel) ⟨Nat.le_of_ble_eq_true rfl, Nat.le_of_ble_eq_true rfl⟩) (fun _ _ _ => gj_P0) rfl rfl (Nat.le_of_ble_eq_true rfl) d_N_isWellFormed_12 ⟨Nat.zero_le _, Nat.zero_le _⟩ ?_
    exact gj_zretR (pc := 15) cx hr hlk d_N_isWellFormed_15 (bI_n _) (by simp [nWf, hb1])

set_option maxRecDepth 100000 in
set_option maxHeartbeats 4000000 in
theorem c_N_objection (l : Launch) (D : va_G) (cI cJ : ClassId) (a : Nat → Nat) (me n f : Nat) (u : NS) (t : Nat) (y : Nat) (pp : Int64) (hok : nOk u) (ht : t < 141) (hy : y < 7) : MRi l y_N_objection (wsM y_N_objection b_N_objection 9 (some .int)) { frames := 1, cells := 0, slots := 0, locals := 21 } D vwK (tyl cI cJ) (nW cI cJ a me n f u) [.ref (a 0), .int (nI t), .int (nI y), .long pp] (nObj u t y pp) := by
  obtain ⟨hco, hfu, hsu, hcn, hfr⟩ := id hok
  refine gj_enterR (own := R_N) (by decide) rfl (Nat.le_of_ble_eq_true rfl) rfl rfl (fun p e s m below meth c cx hr hlk hK => ?_)
  refine gj_iload_n (pc := 0) cx d_N_objection_0 rfl (x := nI t) rfl ?_
  refine gj_callSRi (pc := 1) (As := [.int (nI t)]) (rest := []) (v := nI (t / 35)) cx hK (c_T_kind l D (tyl cI cJ) t (by omega)) (va_cwS 1 cx.2.2.2.2 (good_S wm_169 wm_167 wm_168 wm_6) rfl rfl rfl (by decide +kernel) ⟨Nat.le_of_ble_eq_true rfl, Nat.le_of_ble_eq_true rfl⟩) (fun _ _ _ => gj_P0) rfl rfl (Nat.le_of_ble_eq_true rfl) d_N_objection_1 ⟨Nat.zero_le _, Nat.zero_le _⟩ ?_
  refine gj_istore (pc := 4) cx d_N_objection_4 (lo' := [(5, .int (nI (t / 35))), (0, .ref (a 0)), (1, .int (nI t)), (2, .int (nI y)), (3, .long pp)]) (by decide) rfl ?_
  refine gj_aload_n (pc := 6) cx d_N_objection_6 rfl (x := a 0) rfl ?_
  refine gj_get (pc := 7) (ci := 0) (C := R_N) (T := T_N) (N := 12) (v := .ref (a 5)) cx hK gj_rP in_N d_N_objection_7 0 rfl rfl 10 (by decide) (in_WT wm_43) rfl ?_
  refine gj_iload_n (pc := 10) cx d_N_objection_10 rfl (x := nI t) rfl ?_
  refine gj_bipush (pc := 11) cx d_N_objection_11 (v := nI 7) (by decide) ?_
  refine gj_imulN (pc := 13) cx d_N_objection_13 ?_
  refine gj_iload_n (pc := 14) cx d_N_objection_14 rfl (x := nI y) rfl ?_
  refine gj_iaddN (pc := 15) cx d_N_objection_15 ?_
  refine gj_lald (pc := 16) (i := (t * 7) + y) (f := nTo u) cx hK gj_rP d_N_objection_16 5 1 rfl rfl (by omega) (by decide) ?_
  refine gj_lstore (pc := 17) cx d_N_objection_17 (lo' := [(6, .long (nTo u ((t * 7) + y))), (5, .int (nI (t / 35))), (0, .ref (a 0)), (1, .int (nI t)), (2, .int (nI y)), (3, .long pp)]) (by decide) rfl ?_
  refine gj_iload (pc := 19) cx d_N_objection_19 (x := nI (t / 35)) rfl ?_
  refine gj_iconst (pc := 21) cx d_N_objection_21 (v := nI 4) (by decide) ?_
  refine gj_icmp_neN (pc := 22) cx d_N_objection_22 (tgt := 39) rfl (by omega) (by omega) (fun hb1 => ?_) (fun hb1 => ?_)
  · refine gj_iload_n (pc := 39) cx d_N_objection_39 rfl (x := nI t) rfl ?_
    refine gj_callSRi (pc := 40) (As := [.int (nI t)]) (rest := []) (v := nI (t % 35 / 5)) cx hK (c_T_account l D (tyl cI cJ) t (by omega)) (va_cwS 1 cx.2.2.2.2 (good_S wm_154 wm_152 wm_153 wm_6) rfl rfl rfl (by decide +kernel) ⟨Nat.le_of_ble_eq_true rfl, Nat.le_of_ble_eq_true rfl⟩) (fun _ _ _ => gj_P0) rfl rfl (Nat.le_of_ble_eq_true rfl) d_N_objection_40 ⟨Nat.zero_le _, Nat.zero_le _⟩ ?_
    refine gj_istore (pc := 43) cx d_N_objection_43 (lo' := [(8, .int (nI (t % 35 / 5))), (6, .long (nTo u ((t * 7) + y))), (5, .int (nI (t / 35))), (0, .ref (a 0)), (1, .int (nI t)), (2, .int (nI y)), (3, .long pp)]) (by decide) rfl ?_
    refine gj_iload (pc := 45) cx d_N_objection_45 (x := nI (t / 35)) rfl ?_
    refine gj_if_neN (pc := 47) cx d_N_objection_47 (tgt := 59) rfl (by omega) (fun hb2 => ?_) (fun hb2 => ?_)
    · refine gj_iload_n (pc := 59) cx d_N_objection_59 rfl (x := nI t) rfl ?_
      refine gj_callSRi (pc := 60) (As := [.int (nI t)]) (rest := []) (v := nI (t % 5 + 1)) cx hK (c_T_seq l D (tyl cI cJ) t (by omega)) (va_cwS 1 cx.2.2.2.2 (good_S wm_172 wm_170 wm_171 wm_6) rfl rfl rfl (by decide +kernel) ⟨Nat.le_of_ble_eq_true rfl, Nat.le_of_ble_eq_true rfl⟩) (fun _ _ _ => gj_P0) rfl rfl (Nat.le_of_ble_eq_true rfl) d_N_objection_60 ⟨Nat.zero_le _, Nat.zero_le _⟩ ?_
      refine gj_aload_n (pc := 63) cx d_N_objection_63 rfl (x := a 0) rfl ?_
      refine gj_get (pc := 64) (ci := 0) (C := R_N) (T := T_N) (N := 12) (v := .ref (a 3)) cx hK gj_rP in_N d_N_objection_64 0 rfl rfl 8 (by decide) (in_WT wm_41) rfl ?_
      refine gj_iload (pc := 67) cx d_N_objection_67 (x := nI (t % 35 / 5)) rfl ?_
      refine gj_ialdN (pc := 69) (i := t % 35 / 5) (f := nFr u) cx hK gj_rP d_N_objection_69 3 0 rfl rfl (by omega) (by decide) ?_
      have hv3 := hfr (t % 35 / 5)
      refine gj_icmp_gtN (pc := 70) cx d_N_objection_70 (tgt := 76) rfl (by omega) (by omega) (fun hb4 => ?_) (fun hb4 => ?_)
      · refine gj_iload (pc := 76) cx d_N_objection_76 (x := nI (t / 35)) rfl ?_
        refine gj_if_neN (pc := 78) cx d_N_objection_78 (tgt := 96) rfl (by omega) (fun hb5 => ?_) (fun hb5 => ?_)
        · refine gj_lload (pc := 96) cx d_N_objection_96 (x := nTo u ((t * 7) + y)) rfl ?_
          refine gj_ldc2 (pc := 98) cx d_N_objection_98 (v := (-1)) (in_WT wm_29) ?_
          refine gj_lcmp_ne (pc := 101) cx d_N_objection_101 d_N_objection_102 (tgt := 109) rfl (fun hb6 => ?_) (fun hb6 => ?_)
          · refine gj_bipush (pc := 109) cx d_N_objection_109 (v := (-6)) (by decide) ?_
            exact gj_iretR (pc := 111) cx hr hlk d_N_objection_111 (by unfold nObj; rw [if_neg, if_neg, if_neg, if_neg] <;> first | rfl | omega | (rw [if_neg] <;> first | assumption | omega))
          · refine gj_iconst (pc := 105) cx d_N_objection_105 (v := nI 0) (by decide) ?_
            refine gj_goto (pc := 106) cx d_N_objection_106 (tgt := 111) rfl ?_
            exact gj_iretR (pc := 111) cx hr hlk d_N_objection_111 (by unfold nObj; rw [if_neg, if_neg, if_neg, if_pos] <;> first | rfl | omega | (rw [if_neg] <;> first | assumption | omega))
        · refine gj_aload_n (pc := 81) cx d_N_objection_81 rfl (x := a 0) rfl ?_
          refine gj_get (pc := 82) (ci := 0) (C := R_N) (T := T_N) (N := 12) (v := .ref (a 1)) cx hK gj_rP in_N d_N_objection_82 0 rfl rfl 6 (by decide) (in_WT wm_39) rfl ?_
          refine gj_iconst (pc := 85) cx d_N_objection_85 (v := nI 1) (by decide) ?_
          refine gj_iload_n (pc := 86) cx d_N_objection_86 rfl (x := nI t) rfl ?_
          refine gj_callSRi (pc := 87) (As := [.int (nI t)]) (rest := [.int (nI 1), .ref (a 1)]) (v := nI (t % 35)) cx hK (c_T_instance l D (tyl cI cJ) t (by omega)) (va_cwS 1 cx.2.2.2.2 (good_S wm_175 wm_173 wm_174 wm_6) rfl rfl rfl (by decide +kernel) ⟨Nat.le_of_ble_eq_true rfl, Nat.le_of_ble_eq_true rfl⟩) (fun _ _ _ => gj_P0) rfl rfl (Nat.le_of_ble_eq_true rfl) d_N_objection_87 ⟨Nat.zero_le _, Nat.zero_le _⟩ ?_
          refine gj_callSRi (pc := 90) (As := [.int (nI 1), .int (nI (t % 35))]) (rest := [.ref (a 1)]) (v := nI (35 + (t % 35))) cx hK (c_T_at l D (tyl cI cJ) 1 (t % 35) ) (va_cwS 2 cx.2.2.2.2 (good_S wm_178 wm_176 wm_177 wm_6) rfl rfl rfl (by decide +kernel) ⟨Nat.le_of_ble_eq_true rfl, Nat.le_of_ble_eq_true rfl⟩) (fun _ _ _ => gj_P0) rfl rfl (Nat.le_of_ble_eq_true rfl) d_N_objection_90 ⟨Nat.zero_le _, Nat.zero_le _⟩ ?_
          refine gj_lald (pc := 93) (i := 35 + (t % 35)) (f := nSa u) cx hK gj_rP d_N_objection_93 1 1 rfl rfl (by omega) (by decide) ?_
          refine gj_lstore (pc := 94) cx d_N_objection_94 (lo' := [(6, .long (nSa u (35 + (t % 35)))), (8, .int (nI (t % 35 / 5))), (5, .int (nI (t / 35))), (0, .ref (a 0)), (1, .int (nI t)), (2, .int (nI y)), (3, .long pp)]) (by decide) rfl ?_
          refine gj_lload (pc := 96) cx d_N_objection_96 (x := nSa u (35 + (t % 35))) rfl ?_
          refine gj_ldc2 (pc := 98) cx d_N_objection_98 (v := (-1)) (in_WT wm_29) ?_
          refine gj_lcmp_ne (pc := 101) cx d_N_objection_101 d_N_objection_102 (tgt := 109) rfl (fun hb7 => ?_) (fun hb7 => ?_)
          · refine gj_bipush (pc := 109) cx d_N_objection_109 (v := (-6)) (by decide) ?_
            exact gj_iretR (pc := 111) cx hr hlk d_N_objection_111 (by unfold nObj; rw [if_neg, if_neg, if_neg, if_neg] <;> first | rfl | omega | (rw [if_pos] <;> first | assumption | omega))
          · refine gj_iconst (pc := 105) cx d_N_objection_105 (v := nI 0) (by decide) ?_
            refine gj_goto (pc := 106) cx d_N_objection_106 (tgt := 111) rfl ?_
            exact gj_iretR (pc := 111) cx hr hlk d_N_objection_111 (by unfold nObj; rw [if_neg, if_neg, if_neg, if_pos] <;> first | rfl | omega | (rw [if_pos] <;> first | assumption | omega))
      · refine gj_bipush (pc := 73) cx d_N_objection_73 (v := (-5)) (by decide) ?_
        exact gj_iretR (pc := 75) cx hr hlk d_N_objection_75 (by unfold nObj; rw [if_neg, if_neg, if_pos] <;> first | rfl | assumption | omega | (simp_all; done))
    · refine gj_iload_n (pc := 50) cx d_N_objection_50 rfl (x := nI y) rfl ?_
      refine gj_iload (pc := 51) cx d_N_objection_51 (x := nI (t % 35 / 5)) rfl ?_
      refine gj_icmp_eqN (pc := 53) cx d_N_objection_53 (tgt := 59) rfl (by omega) (by omega) (fun hb8 => ?_) (fun hb8 => ?_)
      · refine gj_iload_n (pc := 59) cx d_N_objection_59 rfl (x := nI t) rfl ?_
        refine gj_callSRi (pc := 60) (As := [.int (nI t)]) (rest := []) (v := nI (t % 5 + 1)) cx hK (c_T_seq l D (tyl cI cJ) t (by omega)) (va_cwS 1 cx.2.2.2.2 (good_S wm_172 wm_170 wm_171 wm_6) rfl rfl rfl (by decide +kernel) ⟨Nat.le_of_ble_eq_true rfl, Nat.le_of_ble_eq_true rfl⟩) (fun _ _ _ => gj_P0) rfl rfl (Nat.le_of_ble_eq_true rfl) d_N_objection_60 ⟨Nat.zero_le _, Nat.zero_le _⟩ ?_
        refine gj_aload_n (pc := 63) cx d_N_objection_63 rfl (x := a 0) rfl ?_
        refine gj_get (pc := 64) (ci := 0) (C := R_N) (T := T_N) (N := 12) (v := .ref (a 3)) cx hK gj_rP in_N d_N_objection_64 0 rfl rfl 8 (by decide) (in_WT wm_41) rfl ?_
        refine gj_iload (pc := 67) cx d_N_objection_67 (x := nI (t % 35 / 5)) rfl ?_
        refine gj_ialdN (pc := 69) (i := t % 35 / 5) (f := nFr u) cx hK gj_rP d_N_objection_69 3 0 rfl rfl (by omega) (by decide) ?_
        have hv9 := hfr (t % 35 / 5)
        refine gj_icmp_gtN (pc := 70) cx d_N_objection_70 (tgt := 76) rfl (by omega) (by omega) (fun hb10 => ?_) (fun hb10 => ?_)
        · refine gj_iload (pc := 76) cx d_N_objection_76 (x := nI (t / 35)) rfl ?_
          refine gj_if_neN (pc := 78) cx d_N_objection_78 (tgt := 96) rfl (by omega) (fun hb11 => ?_) (fun hb11 => ?_)
          · refine gj_lload (pc := 96) cx d_N_objection_96 (x := nTo u ((t * 7) + y)) rfl ?_
            refine gj_ldc2 (pc := 98) cx d_N_objection_98 (v := (-1)) (in_WT wm_29) ?_
            refine gj_lcmp_ne (pc := 101) cx d_N_objection_101 d_N_objection_102 (tgt := 109) rfl (fun hb12 => ?_) (fun hb12 => ?_)
            · refine gj_bipush (pc := 109) cx d_N_objection_109 (v := (-6)) (by decide) ?_
              exact gj_iretR (pc := 111) cx hr hlk d_N_objection_111 (by unfold nObj; rw [if_neg, if_neg, if_neg, if_neg] <;> first | rfl | omega | (rw [if_pos] <;> first | assumption | omega))
            · refine gj_iconst (pc := 105) cx d_N_objection_105 (v := nI 0) (by decide) ?_
              refine gj_goto (pc := 106) cx d_N_objection_106 (tgt := 111) rfl ?_
              exact gj_iretR (pc := 111) cx hr hlk d_N_objection_111 (by unfold nObj; rw [if_neg, if_neg, if_neg, if_pos] <;> first | rfl | omega | (rw [if_pos] <;> first | assumption | omega))
          · refine gj_aload_n (pc := 81) cx d_N_objection_81 rfl (x := a 0) rfl ?_
            refine gj_get (pc := 82) (ci := 0) (C := R_N) (T := T_N) (N := 12) (v := .ref (a 1)) cx hK gj_rP in_N d_N_objection_82 0 rfl rfl 6 (by decide) (in_WT wm_39) rfl ?_
            refine gj_iconst (pc := 85) cx d_N_objection_85 (v := nI 1) (by decide) ?_
            refine gj_iload_n (pc := 86) cx d_N_objection_86 rfl (x := nI t) rfl ?_
            refine gj_callSRi (pc := 87) (As := [.int (nI t)]) (rest := [.int (nI 1), .ref (a 1)]) (v := nI (t % 35)) cx hK (c_T_instance l D (tyl cI cJ) t (by omega)) (va_cwS 1 cx.2.2.2.2 (good_S wm_175 wm_173 wm_174 wm_6) rfl rfl rfl (by decide +kernel) ⟨Nat.le_of_ble_eq_true rfl, Nat.le_of_ble_eq_true rfl⟩) (fun _ _ _ => gj_P0) rfl rfl (Nat.le_of_ble_eq_true rfl) d_N_objection_87 ⟨Nat.zero_le _, Nat.zero_le _⟩ ?_
            refine gj_callSRi (pc := 90) (As := [.int (nI 1), .int (nI (t % 35))]) (rest := [.ref (a 1)]) (v := nI (35 + (t % 35))) cx hK (c_T_at l D (tyl cI cJ) 1 (t % 35) ) (va_cwS 2 cx.2.2.2.2 (good_S wm_178 wm_176 wm_177 wm_6) rfl rfl rfl (by decide +kernel) ⟨Nat.le_of_ble_eq_true rfl, Nat.le_of_ble_eq_true rfl⟩) (fun _ _ _ => gj_P0) rfl rfl (Nat.le_of_ble_eq_true rfl) d_N_objection_90 ⟨Nat.zero_le _, Nat.zero_le _⟩ ?_
            refine gj_lald (pc := 93) (i := 35 + (t % 35)) (f := nSa u) cx hK gj_rP d_N_objection_93 1 1 rfl rfl (by omega) (by decide) ?_
            refine gj_lstore (pc := 94) cx d_N_objection_94 (lo' := [(6, .long (nSa u (35 + (t % 35)))), (8, .int (nI (t % 35 / 5))), (5, .int (nI (t / 35))), (0, .ref (a 0)), (1, .int (nI t)), (2, .int (nI y)), (3, .long pp)]) (by decide) rfl ?_
            refine gj_lload (pc := 96) cx d_N_objection_96 (x := nSa u (35 + (t % 35))) rfl ?_
            refine gj_ldc2 (pc := 98) cx d_N_objection_98 (v := (-1)) (in_WT wm_29) ?_
            refine gj_lcmp_ne (pc := 101) cx d_N_objection_101 d_N_objection_102 (tgt := 109) rfl (fun hb13 => ?_) (fun hb13 => ?_)
            · refine gj_bipush (pc := 109) cx d_N_objection_109 (v := (-6)) (by decide) ?_
              exact gj_iretR (pc := 111) cx hr hlk d_N_objection_111 (by unfold nObj; rw [if_neg, if_neg, if_neg, if_neg] <;> first | rfl | omega | (rw [if_pos] <;> first | assumption | omega))
            · refine gj_iconst (pc := 105) cx d_N_objection_105 (v := nI 0) (by decide) ?_
              refine gj_goto (pc := 106) cx d_N_objection_106 (tgt := 111) rfl ?_
              exact gj_iretR (pc := 111) cx hr hlk d_N_objection_111 (by unfold nObj; rw [if_neg, if_neg, if_neg, if_pos] <;> first | rfl | omega | (rw [if_pos] <;> first | assumption | omega))
        · refine gj_bipush (pc := 73) cx d_N_objection_73 (v := (-5)) (by decide) ?_
          exact gj_iretR (pc := 75) cx hr hlk d_N_objection_75 (by unfold nObj; rw [if_neg, if_neg, if_pos] <;> first | rfl | assumption | omega | (simp_all; done))
      · refine gj_bipush (pc := 56) cx d_N_objection_56 (v := (-4)) (by decide) ?_
        exact gj_iretR (pc := 58) cx hr hlk d_N_objection_58 (by unfold nObj; rw [if_neg, if_pos] <;> first | rfl | assumption | omega | (simp_all; done))
  · refine gj_lload (pc := 25) cx d_N_objection_25 (x := nTo u ((t * 7) + y)) rfl ?_
    refine gj_lload_n (pc := 27) cx d_N_objection_27 rfl (x := pp) rfl ?_
    refine gj_lcmp_ne (pc := 28) cx d_N_objection_28 d_N_objection_29 (tgt := 37) rfl (fun hb14 => ?_) (fun hb14 => ?_)
    · refine gj_iconst (pc := 37) cx d_N_objection_37 (v := nI 0) (by decide) ?_
      exact gj_iretR (pc := 38) cx hr hlk d_N_objection_38 (by unfold nObj; rw [if_pos, if_neg] <;> first | rfl | assumption | omega | (simp_all; done))
    · refine gj_bipush (pc := 32) cx d_N_objection_32 (v := (-6)) (by decide) ?_
      refine gj_goto (pc := 34) cx d_N_objection_34 (tgt := 38) rfl ?_
      exact gj_iretR (pc := 38) cx hr hlk d_N_objection_38 (by unfold nObj; rw [if_pos, if_pos] <;> first | rfl | assumption | omega | (simp_all; done))

set_option maxRecDepth 100000 in
set_option maxHeartbeats 4000000 in
theorem c_N_wouldTake (l : Launch) (D : va_G) (cI cJ : ClassId) (a : Nat → Nat) (me n f : Nat) (u : NS) (t : Nat) (y : Nat) (pp : Int64) (hok : nOk u) (ht : t < 141) (hy : y < 7) : MRi l y_N_wouldTake (wsM y_N_wouldTake b_N_wouldTake 5 (some .boolean)) { frames := 2, cells := 0, slots := 0, locals := 49 } D vwK (tyl cI cJ) (nW cI cJ a me n f u) [.ref (a 0), .int (nI t), .int (nI y), .long pp] (bI (nWould u t y pp)) := by
  obtain ⟨hco, hfu, hsu, hcn, hfr⟩ := id hok
  refine gj_enterR (own := R_N) (by decide) rfl (Nat.le_of_ble_eq_true rfl) rfl rfl (fun p e s m below meth c cx hr hlk hK => ?_)
  refine gj_aload_n (pc := 0) cx d_N_wouldTake_0 rfl (x := a 0) rfl ?_
  refine gj_get (pc := 1) (ci := 0) (C := R_N) (T := T_N) (N := 12) (v := .int (nI (nCo u))) cx hK gj_rP in_N d_N_wouldTake_1 0 rfl rfl 3 (by decide) (in_WT wm_36) rfl ?_
  refine gj_if_neN (pc := 4) cx d_N_wouldTake_4 (tgt := 37) rfl (by omega) (fun hb1 => ?_) (fun hb1 => ?_)
  · refine gj_iconst (pc := 37) cx d_N_wouldTake_37 (v := nI 0) (by decide) ?_
    exact gj_zretR (pc := 38) cx hr hlk d_N_wouldTake_38 rfl (by simp [nWould, bI, nI, hb1])
  · refine gj_aload_n (pc := 7) cx d_N_wouldTake_7 rfl (x := a 0) rfl ?_
    refine gj_get (pc := 8) (ci := 0) (C := R_N) (T := T_N) (N := 12) (v := .ref (a 5)) cx hK gj_rP in_N d_N_wouldTake_8 0 rfl rfl 10 (by decide) (in_WT wm_43) rfl ?_
    refine gj_iload_n (pc := 11) cx d_N_wouldTake_11 rfl (x := nI t) rfl ?_
    refine gj_bipush (pc := 12) cx d_N_wouldTake_12 (v := nI 7) (by decide) ?_
    refine gj_imulN (pc := 14) cx d_N_wouldTake_14 ?_
    refine gj_iload_n (pc := 15) cx d_N_wouldTake_15 rfl (x := nI y) rfl ?_
    refine gj_iaddN (pc := 16) cx d_N_wouldTake_16 ?_
    refine gj_lald (pc := 17) (i := (t * 7) + y) (f := nTo u) cx hK gj_rP d_N_wouldTake_17 5 1 rfl rfl (by omega) (by decide) ?_
    refine gj_lload_n (pc := 18) cx d_N_wouldTake_18 rfl (x := pp) rfl ?_
    refine gj_lcmp_eq (pc := 19) cx d_N_wouldTake_19 d_N_wouldTake_20 (tgt := 37) rfl (fun hb2 => ?_) (fun hb2 => ?_)
    · refine gj_iconst (pc := 37) cx d_N_wouldTake_37 (v := nI 0) (by decide) ?_
      exact gj_zretR (pc := 38) cx hr hlk d_N_wouldTake_38 rfl (by simp [nWould, bI, nI, hb1, hb2])
    · refine gj_aload_n (pc := 23) cx d_N_wouldTake_23 rfl (x := a 0) rfl ?_
      refine gj_iload_n (pc := 24) cx d_N_wouldTake_24 rfl (x := nI t) rfl ?_
      refine gj_iload_n (pc := 25) cx d_N_wouldTake_25 rfl (x := nI y) rfl ?_
      refine gj_lload_n (pc := 26) cx d_N_wouldTake_26 rfl (x := pp) rfl ?_
      refine gj_callVRi (pc := 27) (As := [.int (nI t), .int (nI y), .long pp]) (rest := []) (v := nObj u t y pp) cx hK (c_N_objection l D cI cJ a me n f u t y pp (by omega) (by omega) (by omega)) (cwV 3 cx.2.2.2.2 (good_V wm_166 wm_164 wm_165 wm_541 wm_3) rfl rfl rfl (by decide +kernel) ⟨Nat.le_of_ble_eq_true rfl, Nat.le_of_ble_eq_true rfl⟩) gj_rP 0 0 rfl rfl rfl rfl rfl (Nat.le_of_ble_eq_true rfl) d_N_wouldTake_27 ⟨Nat.zero_le _, Nat.zero_le _⟩ ?_
      refine gj_if_ne (pc := 30) cx d_N_wouldTake_30 (tgt := 37) rfl (fun hb3 => ?_) (fun hb3 => ?_)
      · refine gj_iconst (pc := 37) cx d_N_wouldTake_37 (v := nI 0) (by decide) ?_
        exact gj_zretR (pc := 38) cx hr hlk d_N_wouldTake_38 rfl (by simp [nWould, bI, nI, hb1, hb2, hb3])
      · refine gj_iconst (pc := 33) cx d_N_wouldTake_33 (v := nI 1) (by decide) ?_
        refine gj_goto (pc := 34) cx d_N_wouldTake_34 (tgt := 38) rfl ?_
        exact gj_zretR (pc := 38) cx hr hlk d_N_wouldTake_38 rfl (by simp [nWould, bI, nI, hb1, hb2, hb3])

set_option maxRecDepth 100000 in
set_option maxHeartbeats 4000000 in
theorem c_N_callsForReady (l : Launch) (D : va_G) (cI cJ : ClassId) (a : Nat → Nat) (me n f : Nat) (u : NS) (k : Nat) (i : Nat) (pp : Int64) (hn : n ≤ 7) (hf : f ≤ 7) (hk : k ≤ 4) (hi : i < 35) : MRi l y_N_callsForReady (wsM y_N_callsForReady b_N_callsForReady 5 (some .boolean)) { frames := 1, cells := 0, slots := 0, locals := 25 } D vwK (tyl cI cJ) (nW cI cJ a me n f u) [.ref (a 0), .int (nI k), .int (nI i), .long pp] (bI (nRdy u n f k i pp)) := by
  refine gj_enterR (own := R_N) (by decide) rfl (Nat.le_of_ble_eq_true rfl) rfl rfl (fun p e s m below meth c cx hr hlk hK => ?_)
  refine gj_aload_n (pc := 0) cx d_N_callsForReady_0 rfl (x := a 0) rfl ?_
  refine gj_get (pc := 1) (ci := 0) (C := R_N) (T := T_N) (N := 12) (v := .ref (a 1)) cx hK gj_rP in_N d_N_callsForReady_1 0 rfl rfl 6 (by decide) (in_WT wm_39) rfl ?_
  refine gj_iconst (pc := 4) cx d_N_callsForReady_4 (v := nI 2) (by decide) ?_
  refine gj_iload_n (pc := 5) cx d_N_callsForReady_5 rfl (x := nI i) rfl ?_
  refine gj_callSRi (pc := 6) (As := [.int (nI 2), .int (nI i)]) (rest := [.ref (a 1)]) (v := nI (70 + i)) cx hK (c_T_at l D (tyl cI cJ) 2 i ) (va_cwS 2 cx.2.2.2.2 (good_S wm_178 wm_176 wm_177 wm_6) rfl rfl rfl (by decide +kernel) ⟨Nat.le_of_ble_eq_true rfl, Nat.le_of_ble_eq_true rfl⟩) (fun _ _ _ => gj_P0) rfl rfl (Nat.le_of_ble_eq_true rfl) d_N_callsForReady_6 ⟨Nat.zero_le _, Nat.zero_le _⟩ ?_
  refine gj_lald (pc := 9) (i := 70 + i) (f := nSa u) cx hK gj_rP d_N_callsForReady_9 1 1 rfl rfl (by omega) (by decide) ?_
  refine gj_ldc2 (pc := 10) cx d_N_callsForReady_10 (v := (-1)) (in_WT wm_29) ?_
  refine gj_lcmp_eq (pc := 13) cx d_N_callsForReady_13 d_N_callsForReady_14 (tgt := 19) rfl (fun hb1 => ?_) (fun hb1 => ?_)
  · refine gj_iload_n (pc := 19) cx d_N_callsForReady_19 rfl (x := nI k) rfl ?_
    refine gj_iconst (pc := 20) cx d_N_callsForReady_20 (v := nI 1) (by decide) ?_
    refine gj_icmp_neN (pc := 21) cx d_N_callsForReady_21 (tgt := 56) rfl (by omega) (by omega) (fun hb2 => ?_) (fun hb2 => ?_)
    · refine gj_iload_n (pc := 56) cx d_N_callsForReady_56 rfl (x := nI k) rfl ?_
      refine gj_iconst (pc := 57) cx d_N_callsForReady_57 (v := nI 2) (by decide) ?_
      refine gj_icmp_neN (pc := 58) cx d_N_callsForReady_58 (tgt := 84) rfl (by omega) (by omega) (fun hb3 => ?_) (fun hb3 => ?_)
      · refine gj_iconst (pc := 84) cx d_N_callsForReady_84 (v := nI 0) (by decide) ?_
        exact gj_zretR (pc := 85) cx hr hlk d_N_callsForReady_85 rfl (by simp [nRdy, bI, nI, hb1, hb2, hb3])
      · refine gj_aload_n (pc := 61) cx d_N_callsForReady_61 rfl (x := a 0) rfl ?_
        refine gj_iconst (pc := 62) cx d_N_callsForReady_62 (v := nI 2) (by decide) ?_
        refine gj_iload_n (pc := 63) cx d_N_callsForReady_63 rfl (x := nI i) rfl ?_
        refine gj_callSRi (pc := 64) (As := [.int (nI 2), .int (nI i)]) (rest := [.ref (a 0)]) (v := nI (70 + i)) cx hK (c_T_at l D (tyl cI cJ) 2 i ) (va_cwS 2 cx.2.2.2.2 (good_S wm_178 wm_176 wm_177 wm_6) rfl rfl rfl (by decide +kernel) ⟨Nat.le_of_ble_eq_true rfl, Nat.le_of_ble_eq_true rfl⟩) (fun _ _ _ => gj_P0) rfl rfl (Nat.le_of_ble_eq_true rfl) d_N_callsForReady_64 ⟨Nat.zero_le _, Nat.zero_le _⟩ ?_
        refine gj_lload_n (pc := 67) cx d_N_callsForReady_67 rfl (x := pp) rfl ?_
        refine gj_callVRi (pc := 68) (As := [.int (nI (70 + i)), .long pp]) (rest := []) (v := nI (nTellOf u (70 + i) pp n)) cx hK (c_N_countTellersOf l D cI cJ a me n f u (70 + i) pp (by omega) (by omega)) (cwV 2 cx.2.2.2.2 (good_V wm_187 wm_185 wm_186 wm_544 wm_3) rfl rfl rfl (by decide +kernel) ⟨Nat.le_of_ble_eq_true rfl, Nat.le_of_ble_eq_true rfl⟩) gj_rP 0 0 rfl rfl rfl rfl rfl (Nat.le_of_ble_eq_true rfl) d_N_callsForReady_68 ⟨Nat.zero_le _, Nat.zero_le _⟩ ?_
        have hv4 := nTellOf_lt u (70 + i) pp n
        refine gj_aload_n (pc := 71) cx d_N_callsForReady_71 rfl (x := a 0) rfl ?_
        refine gj_get (pc := 72) (ci := 0) (C := R_N) (T := T_N) (N := 12) (v := .int (nI f)) cx hK gj_rP in_N d_N_callsForReady_72 0 rfl rfl 2 (by decide) (in_WT wm_35) rfl ?_
        refine gj_iconst (pc := 75) cx d_N_callsForReady_75 (v := nI 1) (by decide) ?_
        refine gj_iaddN (pc := 76) cx d_N_callsForReady_76 ?_
        refine gj_icmp_ltN (pc := 77) cx d_N_callsForReady_77 (tgt := 84) rfl (by omega) (by omega) (fun hb5 => ?_) (fun hb5 => ?_)
        · refine gj_iconst (pc := 84) cx d_N_callsForReady_84 (v := nI 0) (by decide) ?_
          exact gj_zretR (pc := 85) cx hr hlk d_N_callsForReady_85 rfl (by simp [nRdy, bI, nI, hb1, hb2, hb3, hb5])
        · refine gj_iconst (pc := 80) cx d_N_callsForReady_80 (v := nI 1) (by decide) ?_
          refine gj_goto (pc := 81) cx d_N_callsForReady_81 (tgt := 85) rfl ?_
          exact gj_zretR (pc := 85) cx hr hlk d_N_callsForReady_85 rfl (by simp [nRdy, bI, nI, hb1, hb2, hb3, hb5])
    · refine gj_aload_n (pc := 24) cx d_N_callsForReady_24 rfl (x := a 0) rfl ?_
      refine gj_iconst (pc := 25) cx d_N_callsForReady_25 (v := nI 1) (by decide) ?_
      refine gj_iload_n (pc := 26) cx d_N_callsForReady_26 rfl (x := nI i) rfl ?_
      refine gj_callSRi (pc := 27) (As := [.int (nI 1), .int (nI i)]) (rest := [.ref (a 0)]) (v := nI (35 + i)) cx hK (c_T_at l D (tyl cI cJ) 1 i ) (va_cwS 2 cx.2.2.2.2 (good_S wm_178 wm_176 wm_177 wm_6) rfl rfl rfl (by decide +kernel) ⟨Nat.le_of_ble_eq_true rfl, Nat.le_of_ble_eq_true rfl⟩) (fun _ _ _ => gj_P0) rfl rfl (Nat.le_of_ble_eq_true rfl) d_N_callsForReady_27 ⟨Nat.zero_le _, Nat.zero_le _⟩ ?_
      refine gj_lload_n (pc := 30) cx d_N_callsForReady_30 rfl (x := pp) rfl ?_
      refine gj_callVRi (pc := 31) (As := [.int (nI (35 + i)), .long pp]) (rest := []) (v := nI (nTellOf u (35 + i) pp n)) cx hK (c_N_countTellersOf l D cI cJ a me n f u (35 + i) pp (by omega) (by omega)) (cwV 2 cx.2.2.2.2 (good_V wm_187 wm_185 wm_186 wm_544 wm_3) rfl rfl rfl (by decide +kernel) ⟨Nat.le_of_ble_eq_true rfl, Nat.le_of_ble_eq_true rfl⟩) gj_rP 0 0 rfl rfl rfl rfl rfl (Nat.le_of_ble_eq_true rfl) d_N_callsForReady_31 ⟨Nat.zero_le _, Nat.zero_le _⟩ ?_
      have hv6 := nTellOf_lt u (35 + i) pp n
      refine gj_aload_n (pc := 34) cx d_N_callsForReady_34 rfl (x := a 0) rfl ?_
      refine gj_get (pc := 35) (ci := 0) (C := R_N) (T := T_N) (N := 12) (v := .int (nI n)) cx hK gj_rP in_N d_N_callsForReady_35 0 rfl rfl 1 (by decide) (in_WT wm_34) rfl ?_
      refine gj_aload_n (pc := 38) cx d_N_callsForReady_38 rfl (x := a 0) rfl ?_
      refine gj_get (pc := 39) (ci := 0) (C := R_N) (T := T_N) (N := 12) (v := .int (nI f)) cx hK gj_rP in_N d_N_callsForReady_39 0 rfl rfl 2 (by decide) (in_WT wm_35) rfl ?_
      refine gj_iaddN (pc := 42) cx d_N_callsForReady_42 ?_
      refine gj_iconst (pc := 43) cx d_N_callsForReady_43 (v := nI 2) (by decide) ?_
      refine gj_idivN (pc := 44) cx d_N_callsForReady_44 (by omega) (by omega) (by omega) ?_
      refine gj_iconst (pc := 45) cx d_N_callsForReady_45 (v := nI 1) (by decide) ?_
      refine gj_iaddN (pc := 46) cx d_N_callsForReady_46 ?_
      refine gj_icmp_ltN (pc := 47) cx d_N_callsForReady_47 (tgt := 54) rfl (by omega) (by omega) (fun hb7 => ?_) (fun hb7 => ?_)
      · refine gj_iconst (pc := 54) cx d_N_callsForReady_54 (v := nI 0) (by decide) ?_
        exact gj_zretR (pc := 55) cx hr hlk d_N_callsForReady_55 rfl (by simp [nRdy, bI, nI, hb1, hb2, hb7])
      · refine gj_iconst (pc := 50) cx d_N_callsForReady_50 (v := nI 1) (by decide) ?_
        refine gj_goto (pc := 51) cx d_N_callsForReady_51 (tgt := 55) rfl ?_
        exact gj_zretR (pc := 55) cx hr hlk d_N_callsForReady_55 rfl (by simp [nRdy, bI, nI, hb1, hb2, hb7])
  · refine gj_iconst (pc := 17) cx d_N_callsForReady_17 (v := nI 0) (by decide) ?_
    exact gj_zretR (pc := 18) cx hr hlk d_N_callsForReady_18 rfl (by simp [nRdy, bI, nI, hb1])

set_option maxRecDepth 100000 in
set_option maxHeartbeats 4000000 in
theorem c_N_isAcceptable (l : Launch) (D : va_G) (cI cJ : ClassId) (a : Nat → Nat) (me n f : Nat) (u : NS) (i : Nat) (pp : Int64) (hok : nOk u) (hn : n ≤ 7) (hf : f ≤ 7) (hi : i < 35) : MRi l y_N_isAcceptable (wsM y_N_isAcceptable b_N_isAcceptable 4 (some .boolean)) { frames := 1, cells := 0, slots := 0, locals := 25 } D vwK (tyl cI cJ) (nW cI cJ a me n f u) [.ref (a 0), .int (nI i), .long pp] (bI (nAcq u n f i pp)) := by
  obtain ⟨hco, hfu, hsu, hcn, hfr⟩ := id hok
  refine gj_enterR (own := R_N) (by decide) rfl (Nat.le_of_ble_eq_true rfl) rfl rfl (fun p e s m below meth c cx hr hlk hK => ?_)
  refine gj_iload_n (pc := 0) cx d_N_isAcceptable_0 rfl (x := nI i) rfl ?_
  refine gj_callSRi (pc := 1) (As := [.int (nI i)]) (rest := []) (v := nI (i % 5 + 1)) cx hK (c_T_seq l D (tyl cI cJ) i (by omega)) (va_cwS 1 cx.2.2.2.2 (good_S wm_172 wm_170 wm_171 wm_6) rfl rfl rfl (by decide +kernel) ⟨Nat.le_of_ble_eq_true rfl, Nat.le_of_ble_eq_true rfl⟩) (fun _ _ _ => gj_P0) rfl rfl (Nat.le_of_ble_eq_true rfl) d_N_isAcceptable_1 ⟨Nat.zero_le _, Nat.zero_le _⟩ ?_
  refine gj_aload_n (pc := 4) cx d_N_isAcceptable_4 rfl (x := a 0) rfl ?_
  refine gj_get (pc := 5) (ci := 0) (C := R_N) (T := T_N) (N := 12) (v := .ref (a 2)) cx hK gj_rP in_N d_N_isAcceptable_5 0 rfl rfl 7 (by decide) (in_WT wm_40) rfl ?_
  refine gj_iload_n (pc := 8) cx d_N_isAcceptable_8 rfl (x := nI i) rfl ?_
  refine gj_callSRi (pc := 9) (As := [.int (nI i)]) (rest := [.ref (a 2), .int (nI (i % 5 + 1))]) (v := nI (i % 35 / 5)) cx hK (c_T_account l D (tyl cI cJ) i (by omega)) (va_cwS 1 cx.2.2.2.2 (good_S wm_154 wm_152 wm_153 wm_6) rfl rfl rfl (by decide +kernel) ⟨Nat.le_of_ble_eq_true rfl, Nat.le_of_ble_eq_true rfl⟩) (fun _ _ _ => gj_P0) rfl rfl (Nat.le_of_ble_eq_true rfl) d_N_isAcceptable_9 ⟨Nat.zero_le _, Nat.zero_le _⟩ ?_
  refine gj_ialdN (pc := 12) (i := i % 35 / 5) (f := nCn u) cx hK gj_rP d_N_isAcceptable_12 2 0 rfl rfl (by omega) (by decide) ?_
  have hv1 := hcn (i % 35 / 5)
  refine gj_icmp_leN (pc := 13) cx d_N_isAcceptable_13 (tgt := 29) rfl (by omega) (by omega) (fun hb2 => ?_) (fun hb2 => ?_)
  · refine gj_iconst (pc := 29) cx d_N_isAcceptable_29 (v := nI 0) (by decide) ?_
    exact gj_zretR (pc := 30) cx hr hlk d_N_isAcceptable_30 rfl (by simp [nAcq, bI, nI, hb2])
  · refine gj_aload_n (pc := 16) cx d_N_isAcceptable_16 rfl (x := a 0) rfl ?_
    refine gj_get (pc := 17) (ci := 0) (C := R_N) (T := T_N) (N := 12) (v := .ref (a 6)) cx hK gj_rP in_N d_N_isAcceptable_17 0 rfl rfl 11 (by decide) (in_WT wm_44) rfl ?_
    refine gj_iload_n (pc := 20) cx d_N_isAcceptable_20 rfl (x := nI i) rfl ?_
    refine gj_lald (pc := 21) (i := i) (f := nAc u) cx hK gj_rP d_N_isAcceptable_21 6 1 rfl rfl (by omega) (by decide) ?_
    refine gj_ldc2 (pc := 22) cx d_N_isAcceptable_22 (v := (-1)) (in_WT wm_29) ?_
    refine gj_lcmp_eq (pc := 25) cx d_N_isAcceptable_25 d_N_isAcceptable_26 (tgt := 31) rfl (fun hb3 => ?_) (fun hb3 => ?_)
    · refine gj_aload_n (pc := 31) cx d_N_isAcceptable_31 rfl (x := a 0) rfl ?_
      refine gj_iconst (pc := 32) cx d_N_isAcceptable_32 (v := nI 2) (by decide) ?_
      refine gj_iload_n (pc := 33) cx d_N_isAcceptable_33 rfl (x := nI i) rfl ?_
      refine gj_callSRi (pc := 34) (As := [.int (nI 2), .int (nI i)]) (rest := [.ref (a 0)]) (v := nI (70 + i)) cx hK (c_T_at l D (tyl cI cJ) 2 i ) (va_cwS 2 cx.2.2.2.2 (good_S wm_178 wm_176 wm_177 wm_6) rfl rfl rfl (by decide +kernel) ⟨Nat.le_of_ble_eq_true rfl, Nat.le_of_ble_eq_true rfl⟩) (fun _ _ _ => gj_P0) rfl rfl (Nat.le_of_ble_eq_true rfl) d_N_isAcceptable_34 ⟨Nat.zero_le _, Nat.zero_le _⟩ ?_
      refine gj_lload_n (pc := 37) cx d_N_isAcceptable_37 rfl (x := pp) rfl ?_
      refine gj_callVRi (pc := 38) (As := [.int (nI (70 + i)), .long pp]) (rest := []) (v := nI (nTellOf u (70 + i) pp n)) cx hK (c_N_countTellersOf l D cI cJ a me n f u (70 + i) pp (by omega) (by omega)) (cwV 2 cx.2.2.2.2 (good_V wm_187 wm_185 wm_186 wm_544 wm_3) rfl rfl rfl (by decide +kernel) ⟨Nat.le_of_ble_eq_true rfl, Nat.le_of_ble_eq_true rfl⟩) gj_rP 0 0 rfl rfl rfl rfl rfl (Nat.le_of_ble_eq_true rfl) d_N_isAcceptable_38 ⟨Nat.zero_le _, Nat.zero_le _⟩ ?_
      have hv4 := nTellOf_lt u (70 + i) pp n
      refine gj_iconst (pc := 41) cx d_N_isAcceptable_41 (v := nI 2) (by decide) ?_
      refine gj_aload_n (pc := 42) cx d_N_isAcceptable_42 rfl (x := a 0) rfl ?_
      refine gj_get (pc := 43) (ci := 0) (C := R_N) (T := T_N) (N := 12) (v := .int (nI f)) cx hK gj_rP in_N d_N_isAcceptable_43 0 rfl rfl 2 (by decide) (in_WT wm_35) rfl ?_
      refine gj_imulN (pc := 46) cx d_N_isAcceptable_46 ?_
      refine gj_iconst (pc := 47) cx d_N_isAcceptable_47 (v := nI 1) (by decide) ?_
      refine gj_iaddN (pc := 48) cx d_N_isAcceptable_48 ?_
      refine gj_icmp_geN (pc := 49) cx d_N_isAcceptable_49 (tgt := 71) rfl (by omega) (by omega) (fun hb5 => ?_) (fun hb5 => ?_)
      · refine gj_iconst (pc := 71) cx d_N_isAcceptable_71 (v := nI 1) (by decide) ?_
        refine gj_goto (pc := 72) cx d_N_isAcceptable_72 (tgt := 76) rfl ?_
        exact gj_zretR (pc := 76) cx hr hlk d_N_isAcceptable_76 rfl (by simp [nAcq, bI, nI, hb2, hb3, hb5])
      · refine gj_aload_n (pc := 52) cx d_N_isAcceptable_52 rfl (x := a 0) rfl ?_
        refine gj_iconst (pc := 53) cx d_N_isAcceptable_53 (v := nI 3) (by decide) ?_
        refine gj_iload_n (pc := 54) cx d_N_isAcceptable_54 rfl (x := nI i) rfl ?_
        refine gj_callSRi (pc := 55) (As := [.int (nI 3), .int (nI i)]) (rest := [.ref (a 0)]) (v := nI (105 + i)) cx hK (c_T_at l D (tyl cI cJ) 3 i ) (va_cwS 2 cx.2.2.2.2 (good_S wm_178 wm_176 wm_177 wm_6) rfl rfl rfl (by decide +kernel) ⟨Nat.le_of_ble_eq_true rfl, Nat.le_of_ble_eq_true rfl⟩) (fun _ _ _ => gj_P0) rfl rfl (Nat.le_of_ble_eq_true rfl) d_N_isAcceptable_55 ⟨Nat.zero_le _, Nat.zero_le _⟩ ?_
        refine gj_lload_n (pc := 58) cx d_N_isAcceptable_58 rfl (x := pp) rfl ?_
        refine gj_callVRi (pc := 59) (As := [.int (nI (105 + i)), .long pp]) (rest := []) (v := nI (nTellOf u (105 + i) pp n)) cx hK (c_N_countTellersOf l D cI cJ a me n f u (105 + i) pp (by omega) (by omega)) (cwV 2 cx.2.2.2.2 (good_V wm_187 wm_185 wm_186 wm_544 wm_3) rfl rfl rfl (by decide +kernel) ⟨Nat.le_of_ble_eq_true rfl, Nat.le_of_ble_eq_true rfl⟩) gj_rP 0 0 rfl rfl rfl rfl rfl (Nat.le_of_ble_eq_true rfl) d_N_isAcceptable_59 ⟨Nat.zero_le _, Nat.zero_le _⟩ ?_
        have hv6 := nTellOf_lt u (105 + i) pp n
        refine gj_aload_n (pc := 62) cx d_N_isAcceptable_62 rfl (x := a 0) rfl ?_
        refine gj_get (pc := 63) (ci := 0) (C := R_N) (T := T_N) (N := 12) (v := .int (nI f)) cx hK gj_rP in_N d_N_isAcceptable_63 0 rfl rfl 2 (by decide) (in_WT wm_35) rfl ?_
        refine gj_iconst (pc := 66) cx d_N_isAcceptable_66 (v := nI 1) (by decide) ?_
        refine gj_iaddN (pc := 67) cx d_N_isAcceptable_67 ?_
        refine gj_icmp_ltN (pc := 68) cx d_N_isAcceptable_68 (tgt := 75) rfl (by omega) (by omega) (fun hb7 => ?_) (fun hb7 => ?_)
        · refine gj_iconst (pc := 75) cx d_N_isAcceptable_75 (v := nI 0) (by decide) ?_
          exact gj_zretR (pc := 76) cx hr hlk d_N_isAcceptable_76 rfl (by simp [nAcq, bI, nI, hb2, hb3, hb5, hb7])
        · refine gj_iconst (pc := 71) cx d_N_isAcceptable_71 (v := nI 1) (by decide) ?_
          refine gj_goto (pc := 72) cx d_N_isAcceptable_72 (tgt := 76) rfl ?_
          exact gj_zretR (pc := 76) cx hr hlk d_N_isAcceptable_76 rfl (by simp [nAcq, bI, nI, hb2, hb3, hb5, hb7])
    · refine gj_iconst (pc := 29) cx d_N_isAcceptable_29 (v := nI 0) (by decide) ?_
      exact gj_zretR (pc := 30) cx hr hlk d_N_isAcceptable_30 rfl (by simp [nAcq, bI, nI, hb2, hb3])
end
section
/-! What the walks of Node's larger methods rest on -/
theorem nI_m1 {k : Nat} (h : k < 2147483648) : ¬ nI k = -1 := by
  intro e
  have h1 := nI_toInt (n := k) h
  rw [e] at h1
  have h2 : (-1 : Int32).toInt = -1 := by decide
  rw [h2] at h1
  omega
theorem nVal_ok {u : NS} {n b : Nat} {p : Int64} (h1 : ¬ p = -1) (h2 : lN (amtN p) ≤ nBa u b) : nVal u n b p = allB (fun c => decide (needN p c ≤ nCn u c)) n :=
  if_neg (fun h => h.elim h1 (fun h => Int64.not_lt.mpr h2 h))
theorem nVal_no {u : NS} {n b : Nat} {p : Int64} (h2 : ¬ lN (amtN p) ≤ nBa u b) : nVal u n b p = false := if_pos (Or.inr (Int64.not_le.mp h2))
theorem nVal_ne {u : NS} {n b : Nat} {p : Int64} (h : nVal u n b p = true) : ¬ p = -1 := by
  intro e
  rw [show nVal u n b p = false from if_pos (Or.inl e)] at h
  cases h
theorem fstB_f {P : Nat → Bool} {n i : Nat} (hi : i < n) (h : P i = false) : fstB P (n - i) i = fstB P (n - (i + 1)) (i + 1) := by
  obtain ⟨k, hk⟩ : ∃ k, n - i = k + 1 := ⟨n - i - 1, by omega⟩
  rw [hk, show n - (i + 1) = k by omega]
  simp [fstB, h]
theorem fstB_t {P : Nat → Bool} {n i : Nat} (hi : i < n) (h : P i = true) : fstB P (n - i) i = i := by
  obtain ⟨k, hk⟩ : ∃ k, n - i = k + 1 := ⟨n - i - 1, by omega⟩
  rw [hk]
  simp [fstB, h]
theorem fstB_e {P : Nat → Bool} {n i : Nat} (hi : n ≤ i) : fstB P (n - i) i = i := by
  rw [show n - i = 0 by omega]
  rfl
theorem fstB_le {P : Nat → Bool} : ∀ (k i : Nat), fstB P k i ≤ i + k
  | 0, i => Nat.le_refl _
  | k + 1, i => by
    simp only [fstB]
    split
    · omega
    · have := fstB_le (P := P) k (i + 1); omega
theorem fstB_sat {P : Nat → Bool} : ∀ (k i : Nat), fstB P k i ≠ i + k → P (fstB P k i) = true
  | 0, i => fun h => absurd rfl h
  | k + 1, i => by
    simp only [fstB]
    split
    · rename_i h; intro _; exact h
    · intro h; exact fstB_sat k (i + 1) (by omega)
theorem nLeast_lt {u : NS} {n : Nat} (h : ¬ nLeast u n = n) : nLeast u n < n := by
  have := fstB_le (P := nNext u n) n 0
  unfold nLeast at h ⊢
  omega
theorem nLeast_sat {u : NS} {n : Nat} (h : ¬ nLeast u n = n) : nNext u n (nLeast u n) = true := fstB_sat n 0 (by unfold nLeast at h; omega)
theorem nNext_cn {u : NS} {n c : Nat} (h : nNext u n c = true) : nCn u c < 5 := by
  simp only [nNext, Bool.and_eq_true, decide_eq_true_eq] at h
  exact h.1
theorem nNext_ac {u : NS} {n c : Nat} (h : nNext u n c = true) : ¬ nAc u (c * 5 + nCn u c) = -1 := by
  simp only [nNext, Bool.and_eq_true, decide_eq_true_eq] at h
  exact nVal_ne h.2
theorem nWr_t {u : NS} {t : Nat} {p : Int64} (h : nWrB u = true) : nWr u t p = sSa (sFu u (nFu u - 1)) (va_up (nSa u) t p) := if_neg (by simpa [nWrB] using h)
theorem nWr_f {u : NS} {t : Nat} {p : Int64} (h : nWrB u = false) : nWr u t p = nDown u := if_pos (by simpa [nWrB] using h)
theorem nWrB_t {u : NS} (h : nWrB u = true) : ¬ nFu u = 1 := by simpa [nWrB] using h
theorem nWrB_f {u : NS} (h : nWrB u = false) : nFu u = 1 := by simpa [nWrB] using h
/-- the node after one more paper is applied -/
def nStep (u : NS) (n : Nat) : NS := sAc (nPay (nWr u (105 + (nLeast u n * 5 + nCn u (nLeast u n))) (nAc u (nLeast u n * 5 + nCn u (nLeast u n)))) (nLeast u n) (nAc u (nLeast u n * 5 + nCn u (nLeast u n)))) (va_up (nAc u) (nLeast u n * 5 + nCn u (nLeast u n)) (-1))
theorem nApply_end {n k i : Nat} {u : NS} (h : nLeast u n = n) : nApply n k i u = (nI i, u) := by
  cases k with
  | zero => rfl
  | succ k => simp [nApply, h]
theorem nApply_fall {n k i : Nat} {u : NS} (hk : 0 < k) (h : ¬ nLeast u n = n) (h1 : nFu u = 1) : nApply n k i u = (-7, nDown u) := by
  obtain ⟨k, rfl⟩ : ∃ j, k = j + 1 := ⟨k - 1, by omega⟩
  simp [nApply, h, h1]
theorem nApply_step {n k i : Nat} {u : NS} (hk : i < k) (h : ¬ nLeast u n = n) (h1 : ¬ nFu u = 1) : nApply n (k - i) i u = nApply n (k - (i + 1)) (i + 1) (nStep u n) := by
  obtain ⟨j, hj⟩ : ∃ j, k - i = j + 1 := ⟨k - i - 1, by omega⟩
  rw [hj, show k - (i + 1) = j by omega]
  simp [nApply, h, h1, nStep]
theorem max_nI {x y : Nat} (hx : x < 2147483648) (hy : y < 2147483648) : (if nI x < nI y then nI y else nI x) = nI (max x y) := by
  by_cases h : x < y
  · rw [if_pos ((nI_ltI hx hy).mpr h), Nat.max_eq_right (by omega)]
  · rw [if_neg (fun z => h ((nI_ltI hx hy).mp z)), Nat.max_eq_left (by omega)]
theorem fgS_0 (u : NS) (i : Nat) : fgS u i 0 = nSa u := by
  funext t
  exact if_neg (by omega)
theorem fgS_up {u : NS} {i k : Nat} (hi : i < 35) : va_up (fgS u i k) (k * 35 + i) (-1) = fgS u i (k + 1) := by
  funext t
  unfold va_up fgS
  by_cases h : t = k * 35 + i
  · rw [if_pos h, if_pos (by omega)]
  · rw [if_neg h]
    by_cases h2 : t % 35 = i ∧ t / 35 < k
    · rw [if_pos h2, if_pos (by omega)]
    · rw [if_neg h2, if_neg (by omega)]
theorem fgT_0 (u : NS) (n i : Nat) : fgT u n i 1 0 = nTo u := by
  funext t
  exact if_neg (by omega)
theorem fgT_up {u : NS} {n i k y : Nat} (hi : i < 35) (hy : y < 7) (hk : 1 ≤ k) : va_up (fgT u n i k y) ((k * 35 + i) * 7 + y) (-1) = fgT u n i k (y + 1) := by
  funext t
  unfold va_up fgT
  by_cases h : t = (k * 35 + i) * 7 + y
  · rw [if_pos h, if_pos (by omega)]
  · rw [if_neg h]
    by_cases h2 : t / 7 % 35 = i ∧ 1 ≤ t / 245 ∧ (t / 245 < k ∧ t % 7 < n ∨ t / 245 = k ∧ t % 7 < y)
    · rw [if_pos h2, if_pos (by omega)]
    · rw [if_neg h2, if_neg (by omega)]
theorem fgT_row (u : NS) (n i k : Nat) : fgT u n i k n = fgT u n i (k + 1) 0 := by
  funext t
  unfold fgT
  by_cases h2 : t / 7 % 35 = i ∧ 1 ≤ t / 245 ∧ (t / 245 < k ∧ t % 7 < n ∨ t / 245 = k ∧ t % 7 < n)
  · rw [if_pos h2, if_pos (by omega)]
  · rw [if_neg h2, if_neg (by omega)]
theorem nForgets_fr {n c k : Nat} : ∀ (m : Nat) (u : NS), nFr (nForgets n c k m u) = nFr u
  | 0, _ => rfl
  | m + 1, u => nForgets_fr m u
theorem nOk_forgets {n c k : Nat} : ∀ (m : Nat) {u : NS}, nOk u → nOk (nForgets n c k m u)
  | 0, _, h => h
  | m + 1, _, h => nOk_forgets (n := n) (c := c) (k := k) m h
theorem nOk_freeC {n c : Nat} {d : Int64} {u : NS} (h : nOk u) (hd : digN d c ≤ 5) : nOk (nFreeC n d c u) := by
  have h2 := nOk_forgets (n := n) (c := c) (k := nFr u c) (digN d c - nFr u c) h
  refine ⟨h2.1, h2.2.1, h2.2.2.1, h2.2.2.2.1, fun b => ?_⟩
  show va_up _ c _ b ≤ 5
  unfold va_up
  split
  · have := h.2.2.2.2 c; omega
  · exact h2.2.2.2.2 b
theorem nOk_freeTo {n : Nat} {d : Int64} {u : NS} (h : nOk u) : ∀ k, (∀ c, c < k → digN d c ≤ 5) → nOk (nFreeTo n d k u)
  | 0, _ => h
  | k + 1, hd => nOk_freeC (nOk_freeTo h k (fun c hc => hd c (by omega))) (hd k (by omega))
theorem nLast_pos {u : NS} {me c t : Nat} (ht : 1 ≤ t) : nLast u me c t = if payN (nSa u (105 + c * 5 + (t - 1))) = me then t else nLast u me c (t - 1) := by
  obtain ⟨k, rfl⟩ : ∃ k, t = k + 1 := ⟨t - 1, by omega⟩
  rfl
theorem nLast_le (u : NS) (me c : Nat) : ∀ t, nLast u me c t ≤ t
  | 0 => Nat.le_refl _
  | t + 1 => by
    simp only [nLast]
    split
    · exact Nat.le_refl _
    · have := nLast_le u me c t; omega
theorem digs_lt {f : Nat → Nat} (hf : ∀ c, f c < 8) : ∀ n, digs f n < 2 ^ (3 * n)
  | 0 => Nat.zero_lt_one
  | n + 1 => by
    have h1 := digs_lt hf n
    have h2 := hf n
    have h3 : 2 ^ (3 * (n + 1)) = 8 * 2 ^ (3 * n) := by rw [show 3 * (n + 1) = 3 * n + 3 by omega, Nat.pow_add]; omega
    have h4 : f n * 2 ^ (3 * n) ≤ 7 * 2 ^ (3 * n) := Nat.mul_le_mul_right _ (by omega)
    simp only [digs]
    omega
theorem digs_or {f : Nat → Nat} (hf : ∀ c, f c < 8) {i : Nat} (hi : i < 7) : lN (digs f i) ||| (nI (f i)).toInt64 <<< ((nI (3 * i)).toInt64 &&& 63) = lN (digs f (i + 1)) := by
  have h1 := digs_lt hf i
  have h2 := digs_lt hf (i + 1)
  have h3 : 2 ^ (3 * (i + 1)) ≤ 2 ^ 21 := Nat.pow_le_pow_right (by decide) (by omega)
  have h4 := hf i
  simp only [digs] at h2 ⊢
  rw [nI_l (by omega), px_shl (by omega), px_or h1 (by omega)]
theorem digs_21 {f : Nat → Nat} (hf : ∀ c, f c < 8) {n : Nat} (hn : n ≤ 7) : digs f n < 2097152 :=
  Nat.lt_of_lt_of_le (digs_lt hf n) (show 2 ^ (3 * n) ≤ 2 ^ 21 from Nat.pow_le_pow_right (by decide) (by omega))
theorem nMark_lt {u : NS} (hcn : ∀ c, nCn u c ≤ 5) {n : Nat} (hn : n ≤ 7) : nMark u n < 2097152 := digs_21 (fun c => by have := hcn c; omega) hn
theorem nNeeds_lt {u : NS} (hcn : ∀ c, nCn u c ≤ 5) (me : Nat) {n : Nat} (hn : n ≤ 7) : nNeeds u me n < 2097152 := digs_21 (fun c => by have := hcn c; have := nLast_le u me c (nCn u c); omega) hn
theorem lN_0 : (0 : Int64) = lN 0 := rfl
theorem lN_toI {n : Nat} : (lN n).toInt32 = nI n := lN_i n
theorem nOk_step {u : NS} {n : Nat} (h : nOk u) (hL : ¬ nLeast u n = n) (h1 : ¬ nFu u = 1) : nOk (nStep u n) := by
  obtain ⟨h2, h3, h4, h5, h6⟩ := h
  have hc := nNext_cn (nLeast_sat hL)
  unfold nStep nWr
  rw [if_neg h1]
  refine ⟨h2, ?_, h4, fun c => ?_, h6⟩
  · show nFu u - 1 ≤ 9
    omega
  · show va_up (nCn u) (nLeast u n) (nCn u (nLeast u n) + 1) c ≤ 5
    unfold va_up
    split
    · omega
    · exact h5 c
theorem nAc_step {u : NS} {n m : Nat} (h : ∀ j, j < 35 → nAc u j ≠ -1 → payN (nAc u j) < m) (h1 : ¬ nFu u = 1) : ∀ j, j < 35 → nAc (nStep u n) j ≠ -1 → payN (nAc (nStep u n) j) < m := by
  intro j hj
  show va_up (nAc u) _ (-1) j ≠ -1 → payN (va_up (nAc u) _ (-1) j) < m
  unfold va_up
  split
  · intro z; exact absurd rfl z
  · exact h j hj
theorem nWf_pay {t n : Nat} {p : Int64} (h : nWf t p n = true) : t = 140 ∨ payN p < n := by
  unfold nWf at h
  split at h
  · rename_i h1; exact Or.inl h1
  · right
    simp only [wfP, Bool.and_eq_true, decide_eq_true_eq] at h
    exact h.1
theorem nTake_0 {u : NS} {n f t y : Nat} {p : Int64} (h : t / 35 = 0) : nTake u n f t y p = (if nFu u = 1 then -7 else 0, nWr u (35 + t % 35) p) := by
  unfold nTake
  rw [if_pos h]
theorem nTake_4 {u v : NS} {n f t y : Nat} {p : Int64} (hv : v = sTo u (va_up (nTo u) (t * 7 + y) p)) (h : t / 35 = 4) : nTake u n f t y p = (0, nFree v n f) := by
  subst hv
  unfold nTake
  rw [if_neg (by omega)]
  simp only [h, if_true]
theorem nTake_7 {u v : NS} {n f t y : Nat} {p : Int64} (hv : v = sTo u (va_up (nTo u) (t * 7 + y) p)) (h0 : t / 35 ≠ 0) (h4 : t / 35 ≠ 4) (hr : nRdy v n f (t / 35) (t % 35) p = true) (h1 : nFu v = 1) : nTake u n f t y p = (-7, nDown v) := by
  subst hv
  unfold nTake
  rw [if_neg h0]
  simp only [if_neg h4]
  rw [if_pos ⟨hr, h1⟩]
theorem nTake_3 {u v z : NS} {n f t y : Nat} {p : Int64} (hv : v = sTo u (va_up (nTo u) (t * 7 + y) p)) (h0 : t / 35 ≠ 0) (h4 : t / 35 ≠ 4) (hz : nRdy v n f (t / 35) (t % 35) p = true ∧ ¬ nFu v = 1 ∧ z = nWr v (70 + t % 35) p ∨ nRdy v n f (t / 35) (t % 35) p = false ∧ z = v) : nTake u n f t y p = nApply n 35 0 (if nAcq z n f (t % 35) p = true then sAc z (va_up (nAc z) (t % 35) p) else z) := by
  subst hv
  unfold nTake
  rw [if_neg h0]
  simp only [if_neg h4]
  rcases hz with ⟨hr, h1, rfl⟩ | ⟨hr, rfl⟩
  · rw [if_neg (fun h => h1 h.2)]
    simp only [hr, if_true]
  · rw [if_neg (fun h => by rw [hr] at h; cases h.1)]
    simp only [hr, Bool.false_eq_true, if_false]
theorem nOk_wr {u : NS} {t : Nat} {p : Int64} (h : nOk u) : nOk (nWr u t p) := by
  obtain ⟨h2, h3, h4, h5, h6⟩ := h
  unfold nWr
  split
  · exact ⟨by show 1 ≤ 2; omega, by show 0 ≤ 9; omega, h4, h5, h6⟩
  · exact ⟨h2, by show nFu u - 1 ≤ 9; omega, h4, h5, h6⟩
theorem nAc_wr {u : NS} {t : Nat} {p : Int64} (h : ¬ nFu u = 1) : nAc (nWr u t p) = nAc u := by
  unfold nWr
  rw [if_neg h]
theorem nAc_up {g : Nat → Int64} {i n : Nat} {p : Int64} (h : ∀ j, j < 35 → g j ≠ -1 → payN (g j) < n) (hp : payN p < n) : ∀ j, j < 35 → va_up g i p j ≠ -1 → payN (va_up g i p j) < n := by
  intro j hj
  unfold va_up
  split
  · intro _; exact hp
  · exact h j hj
end
section
/-! Contracts of Node, second part, laid by wip/gen/m_node.py -/
set_option maxRecDepth 100000 in
set_option maxHeartbeats 4000000 in
theorem c_N_isValid (l : Launch) (D : va_G) (cI cJ : ClassId) (a : Nat → Nat) (me n f : Nat) (u : NS) (b : Nat) (pp : Int64) (hok : nOk u) (hn : n ≤ 7) (hb : b < 7) : MRi l y_N_isValid (wsM y_N_isValid b_N_isValid 5 (some .boolean)) { frames := 1, cells := 0, slots := 0, locals := 22 } D vwK (tyl cI cJ) (nW cI cJ a me n f u) [.ref (a 0), .int (nI b), .long pp] (bI (nVal u n b pp)) := by
  obtain ⟨hco, hfu, hsu, hcn, hfr⟩ := id hok
  refine gj_enterR (own := R_N) (by decide) rfl (Nat.le_of_ble_eq_true rfl) rfl rfl (fun p e s m below meth c cx hr hlk hK => ?_)
  refine gj_lload_n (pc := 0) cx d_N_isValid_0 rfl (x := pp) rfl ?_
  refine gj_ldc2 (pc := 1) cx d_N_isValid_1 (v := (-1)) (in_WT wm_29) ?_
  refine gj_lcmp_eq (pc := 4) cx d_N_isValid_4 d_N_isValid_5 (tgt := 23) rfl (fun hb1 => ?_) (fun hb1 => ?_)
  · refine gj_iconst (pc := 23) cx d_N_isValid_23 (v := nI 0) (by decide) ?_
    exact gj_zretR (pc := 24) cx hr hlk d_N_isValid_24 rfl (by rw [show nVal u n b pp = false from if_pos (Or.inl hb1)]; rfl)
  · refine gj_aload_n (pc := 8) cx d_N_isValid_8 rfl (x := a 0) rfl ?_
    refine gj_get (pc := 9) (ci := 0) (C := R_N) (T := T_N) (N := 12) (v := .ref (a 4)) cx hK gj_rP in_N d_N_isValid_9 0 rfl rfl 9 (by decide) (in_WT wm_42) rfl ?_
    refine gj_iload_n (pc := 12) cx d_N_isValid_12 rfl (x := nI b) rfl ?_
    refine gj_lald (pc := 13) (i := b) (f := nBa u) cx hK gj_rP d_N_isValid_13 4 1 rfl rfl (by omega) (by decide) ?_
    refine gj_lload_n (pc := 14) cx d_N_isValid_14 rfl (x := pp) rfl ?_
    refine gj_callSRi (pc := 15) (As := [.long pp]) (rest := [.long (nBa u b)]) (v := nI (amtN pp)) cx hK (c_P_amount l D (tyl cI cJ) pp ) (va_cwS 1 cx.2.2.2.2 (good_S wm_93 wm_91 wm_92 wm_7) rfl rfl rfl (by decide +kernel) ⟨Nat.le_of_ble_eq_true rfl, Nat.le_of_ble_eq_true rfl⟩) (fun _ _ _ => gj_P0) rfl rfl (Nat.le_of_ble_eq_true rfl) d_N_isValid_15 ⟨Nat.zero_le _, Nat.zero_le _⟩ ?_
    have hv2 := amtN_lt pp
    refine gj_i2l (pc := 18) cx d_N_isValid_18 rfl ?_
    refine gj_tol (y := lN (amtN pp)) (nI_l (by omega)) ?_
    refine gj_lcmp_ge (pc := 19) cx d_N_isValid_19 d_N_isValid_20 (tgt := 25) rfl (fun hb3 => ?_) (fun hb3 => ?_)
    · refine gj_iconst (pc := 25) cx d_N_isValid_25 (v := nI 0) (by decide) ?_
      refine gj_istore (pc := 26) cx d_N_isValid_26 (lo' := [(4, .int (nI 0)), (0, .ref (a 0)), (1, .int (nI b)), (2, .long pp)]) (by decide) rfl ?_
      refine gj_pick (lo' := [(0, .ref (a 0)), (1, .int (nI b)), (2, .long pp), (4, .int (nI 0))]) [1, 2, 3, 0] rfl ?_
      refine gj_forH (G := Gj p l e _ s m _ below meth c _ _ _ _ _) (fun i => allB (fun c => decide (needN pp c ≤ nCn u c)) i = true) n 28 (fun i => [(0, .ref (a 0)), (1, .int (nI b)), (2, .long pp), (4, .int (nI i))]) (fun i => nW cI cJ a me n f u) (fun i hi ihi qi => ?_) 0 (by omega) (rfl)
      refine gj_iload (pc := 28) cx d_N_isValid_28 (x := nI i) rfl ?_
      refine gj_aload_n (pc := 30) cx d_N_isValid_30 rfl (x := a 0) rfl ?_
      refine gj_get (pc := 31) (ci := 0) (C := R_N) (T := T_N) (N := 12) (v := .int (nI n)) cx hK gj_rP in_N d_N_isValid_31 0 rfl rfl 1 (by decide) (in_WT wm_34) rfl ?_
      refine gj_icmp_geN (pc := 34) cx d_N_isValid_34 (tgt := 61) rfl (by omega) (by omega) (fun hb4 => ?_) (fun hb4 => ?_)
      · refine gj_iconst (pc := 61) cx d_N_isValid_61 (v := nI 1) (by decide) ?_
        exact gj_zretR (pc := 62) cx hr hlk d_N_isValid_62 rfl (by rw [nVal_ok hb1 hb3, show allB (fun c => decide (needN pp c ≤ nCn u c)) n = true from (show i = n from (by omega)) ▸ qi]; rfl)
      · refine gj_aload_n (pc := 37) cx d_N_isValid_37 rfl (x := a 0) rfl ?_
        refine gj_get (pc := 38) (ci := 0) (C := R_N) (T := T_N) (N := 12) (v := .ref (a 2)) cx hK gj_rP in_N d_N_isValid_38 0 rfl rfl 7 (by decide) (in_WT wm_40) rfl ?_
        refine gj_iload (pc := 41) cx d_N_isValid_41 (x := nI i) rfl ?_
        refine gj_ialdN (pc := 43) (i := i) (f := nCn u) cx hK gj_rP d_N_isValid_43 2 0 rfl rfl (by omega) (by decide) ?_
        have hv5 := hcn i
        refine gj_lload_n (pc := 44) cx d_N_isValid_44 rfl (x := pp) rfl ?_
        refine gj_iload (pc := 45) cx d_N_isValid_45 (x := nI i) rfl ?_
        refine gj_callSRi (pc := 47) (As := [.long pp, .int (nI i)]) (rest := [.int (nI (nCn u i))]) (v := nI (needN pp i)) cx hK (c_P_need l D (tyl cI cJ) pp i (by omega)) (va_cwS 2 cx.2.2.2.2 (good_S wm_162 wm_207 wm_161 wm_7) rfl rfl rfl (by decide +kernel) ⟨Nat.le_of_ble_eq_true rfl, Nat.le_of_ble_eq_true rfl⟩) (fun _ _ _ => gj_P0) rfl rfl (Nat.le_of_ble_eq_true rfl) d_N_isValid_47 ⟨Nat.zero_le _, Nat.zero_le _⟩ ?_
        have hv6 := needN_lt pp i
        refine gj_icmp_geN (pc := 50) cx d_N_isValid_50 (tgt := 55) rfl (by omega) (by omega) (fun hb7 => ?_) (fun hb7 => ?_)
        · refine gj_iincN (pc := 55) cx d_N_isValid_55 (k := 3) (d := 1) (lo' := [(4, .int (nI (i + 1))), (0, .ref (a 0)), (1, .int (nI b)), (2, .long pp)]) rfl (by decide) (by decide) rfl ?_
          refine gj_goto (pc := 58) cx d_N_isValid_58 (tgt := 28) rfl ?_
          refine gj_pick (lo' := [(0, .ref (a 0)), (1, .int (nI b)), (2, .long pp), (4, .int (nI (i + 1)))]) [1, 2, 3, 0] rfl ?_
          exact gj_eq rfl (rfl) rfl (rfl) (ihi (by omega) (by simp [allB, qi, hb4, hb7]))
        · refine gj_iconst (pc := 53) cx d_N_isValid_53 (v := nI 0) (by decide) ?_
          exact gj_zretR (pc := 54) cx hr hlk d_N_isValid_54 rfl (by rw [nVal_ok hb1 hb3, allB_f hb4 (by simpa using hb7)]; rfl)
    · refine gj_iconst (pc := 23) cx d_N_isValid_23 (v := nI 0) (by decide) ?_
      exact gj_zretR (pc := 24) cx hr hlk d_N_isValid_24 rfl (by rw [nVal_no hb3]; rfl)

set_option maxRecDepth 100000 in
set_option maxHeartbeats 4000000 in
theorem c_N_leastPayer (l : Launch) (D : va_G) (cI cJ : ClassId) (a : Nat → Nat) (me n f : Nat) (u : NS)  (hok : nOk u) (hn : n ≤ 7) : MRi l y_N_leastPayer (wsM y_N_leastPayer b_N_leastPayer 2 (some .int)) { frames := 2, cells := 0, slots := 0, locals := 46 } D vwK (tyl cI cJ) (nW cI cJ a me n f u) [.ref (a 0)] (if nLeast u n = n then -1 else nI (nLeast u n)) := by
  obtain ⟨hco, hfu, hsu, hcn, hfr⟩ := id hok
  refine gj_enterR (own := R_N) (by decide) rfl (Nat.le_of_ble_eq_true rfl) rfl rfl (fun p e s m below meth c cx hr hlk hK => ?_)
  refine gj_iconst (pc := 0) cx d_N_leastPayer_0 (v := nI 0) (by decide) ?_
  refine gj_istore_n (pc := 1) cx d_N_leastPayer_1 rfl (lo' := [(1, .int (nI 0)), (0, .ref (a 0))]) (by decide) rfl ?_
  refine gj_pick (lo' := [(0, .ref (a 0)), (1, .int (nI 0))]) [1, 0] rfl ?_
  refine gj_forH (G := Gj p l e _ s m _ below meth c _ _ _ _ _) (fun i => fstB (nNext u n) (n - i) i = nLeast u n) n 2 (fun i => [(0, .ref (a 0)), (1, .int (nI i))]) (fun i => nW cI cJ a me n f u) (fun i hi ihi qi => ?_) 0 (by omega) (rfl)
  refine gj_iload_n (pc := 2) cx d_N_leastPayer_2 rfl (x := nI i) rfl ?_
  refine gj_aload_n (pc := 3) cx d_N_leastPayer_3 rfl (x := a 0) rfl ?_
  refine gj_get (pc := 4) (ci := 0) (C := R_N) (T := T_N) (N := 12) (v := .int (nI n)) cx hK gj_rP in_N d_N_leastPayer_4 0 rfl rfl 1 (by decide) (in_WT wm_34) rfl ?_
  refine gj_icmp_geN (pc := 7) cx d_N_leastPayer_7 (tgt := 51) rfl (by omega) (by omega) (fun hb1 => ?_) (fun hb1 => ?_)
  · refine gj_iconst (pc := 51) cx d_N_leastPayer_51 (v := (-1)) (by decide) ?_
    exact gj_iretR (pc := 52) cx hr hlk d_N_leastPayer_52 (by have e : nLeast u n = n := qi.symm.trans ((fstB_e (by omega)).trans (by omega)); rw [if_pos e])
  · refine gj_aload_n (pc := 10) cx d_N_leastPayer_10 rfl (x := a 0) rfl ?_
    refine gj_get (pc := 11) (ci := 0) (C := R_N) (T := T_N) (N := 12) (v := .ref (a 2)) cx hK gj_rP in_N d_N_leastPayer_11 0 rfl rfl 7 (by decide) (in_WT wm_40) rfl ?_
    refine gj_iload_n (pc := 14) cx d_N_leastPayer_14 rfl (x := nI i) rfl ?_
    refine gj_ialdN (pc := 15) (i := i) (f := nCn u) cx hK gj_rP d_N_leastPayer_15 2 0 rfl rfl (by omega) (by decide) ?_
    have hv2 := hcn i
    refine gj_iconst (pc := 16) cx d_N_leastPayer_16 (v := nI 5) (by decide) ?_
    refine gj_icmp_geN (pc := 17) cx d_N_leastPayer_17 (tgt := 45) rfl (by omega) (by omega) (fun hb3 => ?_) (fun hb3 => ?_)
    · refine gj_iincN (pc := 45) cx d_N_leastPayer_45 (k := 1) (d := 1) (lo' := [(1, .int (nI (i + 1))), (0, .ref (a 0))]) rfl (by decide) (by decide) rfl ?_
      refine gj_goto (pc := 48) cx d_N_leastPayer_48 (tgt := 2) rfl ?_
      refine gj_pick (lo' := [(0, .ref (a 0)), (1, .int (nI (i + 1)))]) [1, 0] rfl ?_
      exact gj_eq rfl (rfl) rfl (rfl) (ihi (by omega) ((fstB_f (by omega) (by simp [nNext, hb1, hb3] <;> omega)).symm.trans qi))
    · refine gj_aload_n (pc := 20) cx d_N_leastPayer_20 rfl (x := a 0) rfl ?_
      refine gj_iload_n (pc := 21) cx d_N_leastPayer_21 rfl (x := nI i) rfl ?_
      refine gj_aload_n (pc := 22) cx d_N_leastPayer_22 rfl (x := a 0) rfl ?_
      refine gj_get (pc := 23) (ci := 0) (C := R_N) (T := T_N) (N := 12) (v := .ref (a 6)) cx hK gj_rP in_N d_N_leastPayer_23 0 rfl rfl 11 (by decide) (in_WT wm_44) rfl ?_
      refine gj_iload_n (pc := 26) cx d_N_leastPayer_26 rfl (x := nI i) rfl ?_
      refine gj_iconst (pc := 27) cx d_N_leastPayer_27 (v := nI 5) (by decide) ?_
      refine gj_imulN (pc := 28) cx d_N_leastPayer_28 ?_
      refine gj_aload_n (pc := 29) cx d_N_leastPayer_29 rfl (x := a 0) rfl ?_
      refine gj_get (pc := 30) (ci := 0) (C := R_N) (T := T_N) (N := 12) (v := .ref (a 2)) cx hK gj_rP in_N d_N_leastPayer_30 0 rfl rfl 7 (by decide) (in_WT wm_40) rfl ?_
      refine gj_iload_n (pc := 33) cx d_N_leastPayer_33 rfl (x := nI i) rfl ?_
      refine gj_ialdN (pc := 34) (i := i) (f := nCn u) cx hK gj_rP d_N_leastPayer_34 2 0 rfl rfl (by omega) (by decide) ?_
      have hv4 := hcn i
      refine gj_iaddN (pc := 35) cx d_N_leastPayer_35 ?_
      refine gj_lald (pc := 36) (i := (i * 5) + (nCn u i)) (f := nAc u) cx hK gj_rP d_N_leastPayer_36 6 1 rfl rfl (by omega) (by decide) ?_
      refine gj_callVRi (pc := 37) (As := [.int (nI i), .long (nAc u ((i * 5) + (nCn u i)))]) (rest := []) (v := bI (nVal u n i (nAc u ((i * 5) + (nCn u i))))) cx hK (c_N_isValid l D cI cJ a me n f u i (nAc u ((i * 5) + (nCn u i))) (by omega) (by omega) (by omega)) (cwV 2 cx.2.2.2.2 (good_V wm_206 wm_204 wm_205 wm_550 wm_3) rfl rfl rfl (by decide +kernel) ⟨Nat.le_of_ble_eq_true rfl, Nat.le_of_ble_eq_true rfl⟩) gj_rP 0 0 rfl rfl rfl rfl rfl (Nat.le_of_ble_eq_true rfl) d_N_leastPayer_37 ⟨Nat.zero_le _, Nat.zero_le _⟩ ?_
      refine gj_if_eqB (pc := 40) cx d_N_leastPayer_40 (tgt := 45) rfl (fun hb5 => ?_) (fun hb5 => ?_)
      · refine gj_iincN (pc := 45) cx d_N_leastPayer_45 (k := 1) (d := 1) (lo' := [(1, .int (nI (i + 1))), (0, .ref (a 0))]) rfl (by decide) (by decide) rfl ?_
        refine gj_goto (pc := 48) cx d_N_leastPayer_48 (tgt := 2) rfl ?_
        refine gj_pick (lo' := [(0, .ref (a 0)), (1, .int (nI (i + 1)))]) [1, 0] rfl ?_
        exact gj_eq rfl (rfl) rfl (rfl) (ihi (by omega) ((fstB_f (by omega) (by simp [nNext, hb1, hb3, hb5] <;> omega)).symm.trans qi))
      · refine gj_iload_n (pc := 43) cx d_N_leastPayer_43 rfl (x := nI i) rfl ?_
        exact gj_iretR (pc := 44) cx hr hlk d_N_leastPayer_44 (by have e : nLeast u n = i := qi.symm.trans (fstB_t (by omega) (by simp [nNext, hb1, hb3, hb5])); rw [e, if_neg (by omega)])

set_option maxRecDepth 100000 in
set_option maxHeartbeats 4000000 in
theorem c_N_pay (l : Launch) (D : va_G) (cI cJ : ClassId) (a : Nat → Nat) (me n f : Nat) (u : NS) (b : Nat) (pp : Int64) (hok : nOk u) (hb : b < 7) (hpy : payN pp < 7) (sz : Nat) : MWv l y_N_pay (wsM y_N_pay b_N_pay 4 none) { frames := 1, cells := 0, slots := 0, locals := 21 } D vwK (tyl cI cJ) (nW cI cJ a me n f u) (nW cI cJ a me n f (nPay u b pp)) sz [.ref (a 0), .int (nI b), .long pp] := by
  obtain ⟨hco, hfu, hsu, hcn, hfr⟩ := id hok
  refine gj_enterW (own := R_N) (by decide) rfl (Nat.le_of_ble_eq_true rfl) rfl rfl (fun p e s m below meth c cx hr hlk hK hsz => ?_)
  have hA : ∀ q, s.heap.size ≤ q → va_A (nW cI cJ a me n f u) sz q := fun q h => Or.inr (hsz ▸ h)
  refine gj_aload_n (pc := 0) cx d_N_pay_0 rfl (x := a 0) rfl ?_
  refine gj_get (pc := 1) (ci := 0) (C := R_N) (T := T_N) (N := 12) (v := .ref (a 2)) cx hK gj_wP in_N d_N_pay_1 0 rfl rfl 7 (by decide) (in_WT wm_40) rfl ?_
  refine gj_iload_n (pc := 4) cx d_N_pay_4 rfl (x := nI b) rfl ?_
  refine gj_dup2_11 (pc := 5) cx d_N_pay_5 rfl rfl ?_
  refine gj_ialdN (pc := 6) (i := b) (f := nCn u) cx hK gj_wP d_N_pay_6 2 0 rfl rfl (by omega) (by decide) ?_
  have hv1 := hcn b
  refine gj_iconst (pc := 7) cx d_N_pay_7 (v := nI 1) (by decide) ?_
  refine gj_iaddN (pc := 8) cx d_N_pay_8 ?_
  refine gj_iastN (pc := 9) (i := b) (f := nCn u) (x := (nCn u b) + 1) (ws' := nW cI cJ a me n f (nCo u, nFu u, nSu u, nSa u, va_up (nCn u) b ((nCn u b) + 1), nFr u, nBa u, nTo u, nAc u)) cx hK d_N_pay_9 2 0 rfl rfl (by omega) (by decide) rfl ?_
  refine gj_aload_n (pc := 10) cx d_N_pay_10 rfl (x := a 0) rfl ?_
  refine gj_get (pc := 11) (ci := 0) (C := R_N) (T := T_N) (N := 12) (v := .ref (a 4)) cx hK gj_wP in_N d_N_pay_11 0 rfl rfl 9 (by decide) (in_WT wm_42) rfl ?_
  refine gj_iload_n (pc := 14) cx d_N_pay_14 rfl (x := nI b) rfl ?_
  refine gj_dup2_11 (pc := 15) cx d_N_pay_15 rfl rfl ?_
  refine gj_lald (pc := 16) (i := b) (f := nBa u) cx hK gj_wP d_N_pay_16 4 1 rfl rfl (by omega) (by decide) ?_
  refine gj_lload_n (pc := 17) cx d_N_pay_17 rfl (x := pp) rfl ?_
  refine gj_callSRi (pc := 18) (As := [.long pp]) (rest := [.long (nBa u b), .int (nI b), .ref (a 4)]) (v := nI (amtN pp)) cx hK (c_P_amount l D (tyl cI cJ) pp ) (va_cwS 1 cx.2.2.2.2 (good_S wm_93 wm_91 wm_92 wm_7) rfl rfl rfl (by decide +kernel) ⟨Nat.le_of_ble_eq_true rfl, Nat.le_of_ble_eq_true rfl⟩) (fun _ _ _ => gj_P0) rfl rfl (Nat.le_of_ble_eq_true rfl) d_N_pay_18 ⟨Nat.zero_le _, Nat.zero_le _⟩ ?_
  have hv2 := amtN_lt pp
  refine gj_i2l (pc := 21) cx d_N_pay_21 rfl ?_
  refine gj_tol (y := lN (amtN pp)) (nI_l (by omega)) ?_
  refine gj_lsub (pc := 22) cx d_N_pay_22 ?_
  refine gj_last (pc := 23) (i := b) (f := nBa u) (x := (nBa u b) - (lN (amtN pp))) (ws' := nW cI cJ a me n f (nCo u, nFu u, nSu u, nSa u, va_up (nCn u) b ((nCn u b) + 1), nFr u, va_up (nBa u) b ((nBa u b) - (lN (amtN pp))), nTo u, nAc u)) cx hK d_N_pay_23 4 1 rfl rfl (by omega) (by decide) rfl ?_
  refine gj_aload_n (pc := 24) cx d_N_pay_24 rfl (x := a 0) rfl ?_
  refine gj_get (pc := 25) (ci := 0) (C := R_N) (T := T_N) (N := 12) (v := .ref (a 4)) cx hK gj_wP in_N d_N_pay_25 0 rfl rfl 9 (by decide) (in_WT wm_42) rfl ?_
  refine gj_lload_n (pc := 28) cx d_N_pay_28 rfl (x := pp) rfl ?_
  refine gj_callSRi (pc := 29) (As := [.long pp]) (rest := [.ref (a 4)]) (v := nI (payN pp)) cx hK (c_P_payee l D (tyl cI cJ) pp ) (va_cwS 1 cx.2.2.2.2 (good_S wm_103 wm_101 wm_102 wm_7) rfl rfl rfl (by decide +kernel) ⟨Nat.le_of_ble_eq_true rfl, Nat.le_of_ble_eq_true rfl⟩) (fun _ _ _ => gj_P0) rfl rfl (Nat.le_of_ble_eq_true rfl) d_N_pay_29 ⟨Nat.zero_le _, Nat.zero_le _⟩ ?_
  have hv3 := payN_lt pp
  refine gj_dup2_11 (pc := 32) cx d_N_pay_32 rfl rfl ?_
  refine gj_lald (pc := 33) (i := payN pp) (f := va_up (nBa u) b ((nBa u b) - (lN (amtN pp)))) cx hK gj_wP d_N_pay_33 4 1 rfl rfl (by omega) (by decide) ?_
  refine gj_lload_n (pc := 34) cx d_N_pay_34 rfl (x := pp) rfl ?_
  refine gj_callSRi (pc := 35) (As := [.long pp]) (rest := [.long ((va_up (nBa u) b ((nBa u b) - (lN (amtN pp)))) (payN pp)), .int (nI (payN pp)), .ref (a 4)]) (v := nI (amtN pp)) cx hK (c_P_amount l D (tyl cI cJ) pp ) (va_cwS 1 cx.2.2.2.2 (good_S wm_93 wm_91 wm_92 wm_7) rfl rfl rfl (by decide +kernel) ⟨Nat.le_of_ble_eq_true rfl, Nat.le_of_ble_eq_true rfl⟩) (fun _ _ _ => gj_P0) rfl rfl (Nat.le_of_ble_eq_true rfl) d_N_pay_35 ⟨Nat.zero_le _, Nat.zero_le _⟩ ?_
  have hv4 := amtN_lt pp
  refine gj_i2l (pc := 38) cx d_N_pay_38 rfl ?_
  refine gj_tol (y := lN (amtN pp)) (nI_l (by omega)) ?_
  refine gj_ladd (pc := 39) cx d_N_pay_39 ?_
  refine gj_last (pc := 40) (i := payN pp) (f := va_up (nBa u) b ((nBa u b) - (lN (amtN pp)))) (x := ((va_up (nBa u) b ((nBa u b) - (lN (amtN pp)))) (payN pp)) + (lN (amtN pp))) (ws' := nW cI cJ a me n f (nCo u, nFu u, nSu u, nSa u, va_up (nCn u) b ((nCn u b) + 1), nFr u, va_up (va_up (nBa u) b ((nBa u b) - (lN (amtN pp)))) (payN pp) (((va_up (nBa u) b ((nBa u b) - (lN (amtN pp)))) (payN pp)) + (lN (amtN pp))), nTo u, nAc u)) cx hK d_N_pay_40 4 1 rfl rfl (by omega) (by decide) rfl ?_
  exact gj_vretW (pc := 41) cx hr hlk d_N_pay_41 (rfl)

set_option maxRecDepth 100000 in
set_option maxHeartbeats 4000000 in
theorem c_N_applyWhatIsValid (l : Launch) (D : va_G) (cI cJ : ClassId) (a : Nat → Nat) (me n f : Nat) (u : NS)  (hok : nOk u) (hac : ∀ j, j < 35 → nAc u j ≠ -1 → payN (nAc u j) < n) (hn : n ≤ 7) (sz : Nat) : MWi l y_N_applyWhatIsValid (wsM y_N_applyWhatIsValid b_N_applyWhatIsValid 4 (some .int)) { frames := 3, cells := 0, slots := 0, locals := 67 } D vwK (tyl cI cJ) (nW cI cJ a me n f u) (nW cI cJ a me n f ((nApply n 35 0 u).2)) sz [.ref (a 0)] ((nApply n 35 0 u).1) := by
  obtain ⟨hco, hfu, hsu, hcn, hfr⟩ := id hok
  refine gj_enterW (own := R_N) (by decide) rfl (Nat.le_of_ble_eq_true rfl) rfl rfl (fun p e s m below meth c cx hr hlk hK hsz => ?_)
  have hA : ∀ q, s.heap.size ≤ q → va_A (nW cI cJ a me n f u) sz q := fun q h => Or.inr (hsz ▸ h)
  refine gj_iconst (pc := 0) cx d_N_applyWhatIsValid_0 (v := nI 0) (by decide) ?_
  refine gj_istore_n (pc := 1) cx d_N_applyWhatIsValid_1 rfl (lo' := [(1, .int (nI 0)), (0, .ref (a 0))]) (by decide) rfl ?_
  refine gj_pick (lo' := [(0, .ref (a 0)), (1, .int (nI 0))]) [1, 0] rfl ?_
  refine gj_forS (G := Gj p l e _ s m _ below meth c _ _ _ _ _) (σ := NS) (fun i x => nApply n (35 - i) i x = nApply n 35 0 u ∧ nOk x ∧ ∀ j, j < 35 → nAc x j ≠ -1 → payN (nAc x j) < n) 35 2 (fun i _ => [(0, .ref (a 0)), (1, .int (nI i))]) (fun _ x => nW cI cJ a me n f x) (fun i hi ih x hq => ?_) 0 (by omega) u ⟨rfl, hok, hac⟩
  obtain ⟨hE, hokx, hacx⟩ := hq
  obtain ⟨hcox, hfux, hsux, hcnx, hfrx⟩ := id hokx
  refine gj_iload_n (pc := 2) cx d_N_applyWhatIsValid_2 rfl (x := nI i) rfl ?_
  refine gj_bipush (pc := 3) cx d_N_applyWhatIsValid_3 (v := nI 35) (by decide) ?_
  refine gj_icmp_geN (pc := 5) cx d_N_applyWhatIsValid_5 (tgt := 78) rfl (by omega) (by omega) (fun hb1 => ?_) (fun hb1 => ?_)
  · refine gj_bipush (pc := 78) cx d_N_applyWhatIsValid_78 (v := nI 35) (by decide) ?_
    exact gj_iretW (pc := 80) cx hr hlk d_N_applyWhatIsValid_80 (by rw [← hE, show i = 35 from (by omega)]; rfl) (by rw [← hE, show i = 35 from (by omega)]; rfl)
  · refine gj_aload_n (pc := 8) cx d_N_applyWhatIsValid_8 rfl (x := a 0) rfl ?_
    refine gj_callVRi (pc := 9) (As := []) (rest := []) (v := if nLeast x n = n then -1 else nI (nLeast x n)) cx hK (c_N_leastPayer l D cI cJ a me n f x  (hokx) (by omega)) (cwV 0 cx.2.2.2.2 (good_V wm_203 wm_201 wm_202 wm_549 wm_3) rfl rfl rfl (by decide +kernel) ⟨Nat.le_of_ble_eq_true rfl, Nat.le_of_ble_eq_true rfl⟩) gj_wP 0 0 rfl rfl rfl rfl rfl (Nat.le_of_ble_eq_true rfl) d_N_applyWhatIsValid_9 ⟨Nat.zero_le _, Nat.zero_le _⟩ ?_
    by_cases hL : nLeast x n = n
    · refine gj_toi (y := (-1)) (if_pos hL) ?_
      refine gj_istore_n (pc := 12) cx d_N_applyWhatIsValid_12 rfl (lo' := [(2, .int (-1)), (0, .ref (a 0)), (1, .int (nI i))]) (by decide) rfl ?_
      refine gj_iload_n (pc := 13) cx d_N_applyWhatIsValid_13 rfl (x := (-1)) rfl ?_
      refine gj_iconst (pc := 14) cx d_N_applyWhatIsValid_14 (v := (-1)) (by decide) ?_
      refine gj_icmp_ne (pc := 15) cx d_N_applyWhatIsValid_15 (tgt := 20) rfl (fun hb2 => absurd hb2 (fun z => z rfl)) (fun hb2 => ?_)
      refine gj_iload_n (pc := 18) cx d_N_applyWhatIsValid_18 rfl (x := nI i) rfl ?_
      exact gj_iretW (pc := 19) cx hr hlk d_N_applyWhatIsValid_19 (by rw [← hE, nApply_end hL]) (by rw [← hE, nApply_end hL])
    · refine gj_toi (y := nI (nLeast x n)) (if_neg hL) ?_
      have hLn := nLeast_lt hL
      have hLs := nLeast_sat hL
      have hLc := nNext_cn hLs
      have hLa := nNext_ac hLs
      refine gj_istore_n (pc := 12) cx d_N_applyWhatIsValid_12 rfl (lo' := [(2, .int (nI (nLeast x n))), (0, .ref (a 0)), (1, .int (nI i))]) (by decide) rfl ?_
      refine gj_iload_n (pc := 13) cx d_N_applyWhatIsValid_13 rfl (x := nI (nLeast x n)) rfl ?_
      refine gj_iconst (pc := 14) cx d_N_applyWhatIsValid_14 (v := (-1)) (by decide) ?_
      refine gj_icmp_ne (pc := 15) cx d_N_applyWhatIsValid_15 (tgt := 20) rfl (fun hb3 => ?_) (fun hb3 => absurd hb3 (nI_m1 (by omega)))
      refine gj_iload_n (pc := 20) cx d_N_applyWhatIsValid_20 rfl (x := nI (nLeast x n)) rfl ?_
      refine gj_iconst (pc := 21) cx d_N_applyWhatIsValid_21 (v := nI 5) (by decide) ?_
      refine gj_imulN (pc := 22) cx d_N_applyWhatIsValid_22 ?_
      refine gj_aload_n (pc := 23) cx d_N_applyWhatIsValid_23 rfl (x := a 0) rfl ?_
      refine gj_get (pc := 24) (ci := 0) (C := R_N) (T := T_N) (N := 12) (v := .ref (a 2)) cx hK gj_wP in_N d_N_applyWhatIsValid_24 0 rfl rfl 7 (by decide) (in_WT wm_40) rfl ?_
      refine gj_iload_n (pc := 27) cx d_N_applyWhatIsValid_27 rfl (x := nI (nLeast x n)) rfl ?_
      refine gj_ialdN (pc := 28) (i := nLeast x n) (f := nCn x) cx hK gj_wP d_N_applyWhatIsValid_28 2 0 rfl rfl (by omega) (by decide) ?_
      have hv4 := hcnx (nLeast x n)
      refine gj_iaddN (pc := 29) cx d_N_applyWhatIsValid_29 ?_
      refine gj_istore_n (pc := 30) cx d_N_applyWhatIsValid_30 rfl (lo' := [(3, .int (nI (((nLeast x n) * 5) + ((nCn x) (nLeast x n))))), (2, .int (nI (nLeast x n))), (0, .ref (a 0)), (1, .int (nI i))]) (by decide) rfl ?_
      refine gj_aload_n (pc := 31) cx d_N_applyWhatIsValid_31 rfl (x := a 0) rfl ?_
      refine gj_iconst (pc := 32) cx d_N_applyWhatIsValid_32 (v := nI 3) (by decide) ?_
      refine gj_iload_n (pc := 33) cx d_N_applyWhatIsValid_33 rfl (x := nI (((nLeast x n) * 5) + ((nCn x) (nLeast x n)))) rfl ?_
      refine gj_callSRi (pc := 34) (As := [.int (nI 3), .int (nI (((nLeast x n) * 5) + ((nCn x) (nLeast x n))))]) (rest := [.ref (a 0)]) (v := nI (105 + (((nLeast x n) * 5) + ((nCn x) (nLeast x n))))) cx hK (c_T_at l D (tyl cI cJ) 3 (((nLeast x n) * 5) + ((nCn x) (nLeast x n))) ) (va_cwS 2 cx.2.2.2.2 (good_S wm_178 wm_176 wm_177 wm_6) rfl rfl rfl (by decide +kernel) ⟨Nat.le_of_ble_eq_true rfl, Nat.le_of_ble_eq_true rfl⟩) (fun _ _ _ => gj_P0) rfl rfl (Nat.le_of_ble_eq_true rfl) d_N_applyWhatIsValid_34 ⟨Nat.zero_le _, Nat.zero_le _⟩ ?_
      refine gj_aload_n (pc := 37) cx d_N_applyWhatIsValid_37 rfl (x := a 0) rfl ?_
      refine gj_get (pc := 38) (ci := 0) (C := R_N) (T := T_N) (N := 12) (v := .ref (a 6)) cx hK gj_wP in_N d_N_applyWhatIsValid_38 0 rfl rfl 11 (by decide) (in_WT wm_44) rfl ?_
      refine gj_iload_n (pc := 41) cx d_N_applyWhatIsValid_41 rfl (x := nI (((nLeast x n) * 5) + ((nCn x) (nLeast x n)))) rfl ?_
      refine gj_lald (pc := 42) (i := ((nLeast x n) * 5) + ((nCn x) (nLeast x n))) (f := nAc x) cx hK gj_wP d_N_applyWhatIsValid_42 6 1 rfl rfl (by omega) (by decide) ?_
      refine gj_callVWi (pc := 43) (As := [.int (nI (105 + (((nLeast x n) * 5) + ((nCn x) (nLeast x n))))), .long ((nAc x) (((nLeast x n) * 5) + ((nCn x) (nLeast x n))))]) (rest := []) (v := bI (nWrB x)) (ws' := nW cI cJ a me n f (nWr x (105 + (((nLeast x n) * 5) + ((nCn x) (nLeast x n)))) ((nAc x) (((nLeast x n) * 5) + ((nCn x) (nLeast x n)))))) cx hK hA (fun sz => c_N_write l D cI cJ a me n f x (105 + (((nLeast x n) * 5) + ((nCn x) (nLeast x n)))) ((nAc x) (((nLeast x n) * 5) + ((nCn x) (nLeast x n)))) (hokx) (by omega) sz) (cwV 2 cx.2.2.2.2 (good_V wm_110 wm_108 wm_109 wm_537 wm_3) rfl rfl rfl (by decide +kernel) ⟨Nat.le_of_ble_eq_true rfl, Nat.le_of_ble_eq_true rfl⟩) gj_J.self 0 0 rfl rfl rfl rfl rfl (Nat.le_of_ble_eq_true rfl) d_N_applyWhatIsValid_43 ⟨Nat.zero_le _, Nat.zero_le _⟩ ?_
      refine gj_if_neB (pc := 46) cx d_N_applyWhatIsValid_46 (tgt := 52) rfl (fun hb5 => ?_) (fun hb5 => ?_)
      · refine gj_eq (w' := nW cI cJ a me n f (nCo x, nFu x - 1, nSu x, va_up (nSa x) (105 + (nLeast x n * 5 + nCn x (nLeast x n))) (nAc x (nLeast x n * 5 + nCn x (nLeast x n))), nCn x, nFr x, nBa x, nTo x, nAc x)) rfl rfl rfl (by rw [nWr_t hb5]) ?_
        refine gj_aload_n (pc := 52) cx d_N_applyWhatIsValid_52 rfl (x := a 0) rfl ?_
        refine gj_iload_n (pc := 53) cx d_N_applyWhatIsValid_53 rfl (x := nI (nLeast x n)) rfl ?_
        refine gj_aload_n (pc := 54) cx d_N_applyWhatIsValid_54 rfl (x := a 0) rfl ?_
        refine gj_get (pc := 55) (ci := 0) (C := R_N) (T := T_N) (N := 12) (v := .ref (a 6)) cx hK gj_wP in_N d_N_applyWhatIsValid_55 0 rfl rfl 11 (by decide) (in_WT wm_44) rfl ?_
        refine gj_iload_n (pc := 58) cx d_N_applyWhatIsValid_58 rfl (x := nI (((nLeast x n) * 5) + ((nCn x) (nLeast x n)))) rfl ?_
        refine gj_lald (pc := 59) (i := ((nLeast x n) * 5) + ((nCn x) (nLeast x n))) (f := nAc x) cx hK gj_wP d_N_applyWhatIsValid_59 6 1 rfl rfl (by omega) (by decide) ?_
        refine gj_callVWv (pc := 60) (As := [.int (nI (nLeast x n)), .long ((nAc x) (((nLeast x n) * 5) + ((nCn x) (nLeast x n))))]) (rest := []) (ws' := nW cI cJ a me n f (nPay (nCo x, nFu x - 1, nSu x, va_up (nSa x) (105 + (nLeast x n * 5 + nCn x (nLeast x n))) (nAc x (nLeast x n * 5 + nCn x (nLeast x n))), nCn x, nFr x, nBa x, nTo x, nAc x) (nLeast x n) ((nAc x) (((nLeast x n) * 5) + ((nCn x) (nLeast x n)))))) cx hK hA (fun sz => c_N_pay l D cI cJ a me n f (nCo x, nFu x - 1, nSu x, va_up (nSa x) (105 + (nLeast x n * 5 + nCn x (nLeast x n))) (nAc x (nLeast x n * 5 + nCn x (nLeast x n))), nCn x, nFr x, nBa x, nTo x, nAc x) (nLeast x n) ((nAc x) (((nLeast x n) * 5) + ((nCn x) (nLeast x n)))) (⟨hcox, by show nFu x - 1 ≤ 9; omega, hsux, hcnx, hfrx⟩) (by omega) (by have := hacx (nLeast x n * 5 + nCn x (nLeast x n)) (by omega) hLa; omega) sz) (cwV 2 cx.2.2.2.2 (good_V wm_210 wm_208 wm_209 wm_551 wm_3) rfl rfl rfl (by decide +kernel) ⟨Nat.le_of_ble_eq_true rfl, Nat.le_of_ble_eq_true rfl⟩) gj_J.self 0 0 rfl rfl rfl rfl rfl (Nat.le_of_ble_eq_true rfl) d_N_applyWhatIsValid_60 ⟨Nat.zero_le _, Nat.zero_le _⟩ ?_
        refine gj_aload_n (pc := 63) cx d_N_applyWhatIsValid_63 rfl (x := a 0) rfl ?_
        refine gj_get (pc := 64) (ci := 0) (C := R_N) (T := T_N) (N := 12) (v := .ref (a 6)) cx hK gj_wP in_N d_N_applyWhatIsValid_64 0 rfl rfl 11 (by decide) (in_WT wm_44) rfl ?_
        refine gj_iload_n (pc := 67) cx d_N_applyWhatIsValid_67 rfl (x := nI (((nLeast x n) * 5) + ((nCn x) (nLeast x n)))) rfl ?_
        refine gj_ldc2 (pc := 68) cx d_N_applyWhatIsValid_68 (v := (-1)) (in_WT wm_29) ?_
        refine gj_last (pc := 71) (i := ((nLeast x n) * 5) + ((nCn x) (nLeast x n))) (f := nAc (nPay (nCo x, nFu x - 1, nSu x, va_up (nSa x) (105 + (nLeast x n * 5 + nCn x (nLeast x n))) (nAc x (nLeast x n * 5 + nCn x (nLeast x n))), nCn x, nFr x, nBa x, nTo x, nAc x) (nLeast x n) ((nAc x) (((nLeast x n) * 5) + ((nCn x) (nLeast x n)))))) (x := (-1)) (ws' := nW cI cJ a me n f (nCo (nPay (nCo x, nFu x - 1, nSu x, va_up (nSa x) (105 + (nLeast x n * 5 + nCn x (nLeast x n))) (nAc x (nLeast x n * 5 + nCn x (nLeast x n))), nCn x, nFr x, nBa x, nTo x, nAc x) (nLeast x n) ((nAc x) (((nLeast x n) * 5) + ((nCn x) (nLeast x n))))), nFu (nPay (nCo x, nFu x - 1, nSu x, va_up (nSa x) (105 + (nLeast x n * 5 + nCn x (nLeast x n))) (nAc x (nLeast x n * 5 + nCn x (nLeast x n))), nCn x, nFr x, nBa x, nTo x, nAc x) (nLeast x n) ((nAc x) (((nLeast x n) * 5) + ((nCn x) (nLeast x n))))), nSu (nPay (nCo x, nFu x - 1, nSu x, va_up (nSa x) (105 + (nLeast x n * 5 + nCn x (nLeast x n))) (nAc x (nLeast x n * 5 + nCn x (nLeast x n))), nCn x, nFr x, nBa x, nTo x, nAc x) (nLeast x n) ((nAc x) (((nLeast x n) * 5) + ((nCn x) (nLeast x n))))), nSa (nPay (nCo x, nFu x - 1, nSu x, va_up (nSa x) (105 + (nLeast x n * 5 + nCn x (nLeast x n))) (nAc x (nLeast x n * 5 + nCn x (nLeast x n))), nCn x, nFr x, nBa x, nTo x, nAc x) (nLeast x n) ((nAc x) (((nLeast x n) * 5) + ((nCn x) (nLeast x n))))), nCn (nPay (nCo x, nFu x - 1, nSu x, va_up (nSa x) (105 + (nLeast x n * 5 + nCn x (nLeast x n))) (nAc x (nLeast x n * 5 + nCn x (nLeast x n))), nCn x, nFr x, nBa x, nTo x, nAc x) (nLeast x n) ((nAc x) (((nLeast x n) * 5) + ((nCn x) (nLeast x n))))), nFr (nPay (nCo x, nFu x - 1, nSu x, va_up (nSa x) (105 + (nLeast x n * 5 + nCn x (nLeast x n))) (nAc x (nLeast x n * 5 + nCn x (nLeast x n))), nCn x, nFr x, nBa x, nTo x, nAc x) (nLeast x n) ((nAc x) (((nLeast x n) * 5) + ((nCn x) (nLeast x n))))), nBa (nPay (nCo x, nFu x - 1, nSu x, va_up (nSa x) (105 + (nLeast x n * 5 + nCn x (nLeast x n))) (nAc x (nLeast x n * 5 + nCn x (nLeast x n))), nCn x, nFr x, nBa x, nTo x, nAc x) (nLeast x n) ((nAc x) (((nLeast x n) * 5) + ((nCn x) (nLeast x n))))), nTo (nPay (nCo x, nFu x - 1, nSu x, va_up (nSa x) (105 + (nLeast x n * 5 + nCn x (nLeast x n))) (nAc x (nLeast x n * 5 + nCn x (nLeast x n))), nCn x, nFr x, nBa x, nTo x, nAc x) (nLeast x n) ((nAc x) (((nLeast x n) * 5) + ((nCn x) (nLeast x n))))), va_up (nAc (nPay (nCo x, nFu x - 1, nSu x, va_up (nSa x) (105 + (nLeast x n * 5 + nCn x (nLeast x n))) (nAc x (nLeast x n * 5 + nCn x (nLeast x n))), nCn x, nFr x, nBa x, nTo x, nAc x) (nLeast x n) ((nAc x) (((nLeast x n) * 5) + ((nCn x) (nLeast x n)))))) (((nLeast x n) * 5) + ((nCn x) (nLeast x n))) (-1))) cx hK d_N_applyWhatIsValid_71 6 1 rfl rfl (by omega) (by decide) rfl ?_
        refine gj_iincN (pc := 72) cx d_N_applyWhatIsValid_72 (k := 3) (d := 1) (lo' := [(1, .int (nI (i + 1))), (3, .int (nI (((nLeast x n) * 5) + ((nCn x) (nLeast x n))))), (2, .int (nI (nLeast x n))), (0, .ref (a 0))]) rfl (by decide) (by decide) rfl ?_
        refine gj_goto (pc := 75) cx d_N_applyWhatIsValid_75 (tgt := 2) rfl ?_
        refine gj_pick (lo' := [(0, .ref (a 0)), (1, .int (nI (i + 1)))]) [3, 0] rfl ?_
        exact gj_eq rfl rfl rfl (by rw [nStep, nWr_t hb5] <;> rfl) (ih (by omega) (nStep x n) ⟨(nApply_step (by omega) hL (nWrB_t hb5)).symm.trans hE, nOk_step hokx hL (nWrB_t hb5), nAc_step hacx (nWrB_t hb5)⟩)
      · refine gj_bipush (pc := 49) cx d_N_applyWhatIsValid_49 (v := (-7)) (by decide) ?_
        exact gj_iretW (pc := 51) cx hr hlk d_N_applyWhatIsValid_51 (by rw [← hE, nApply_fall (by omega) hL (nWrB_f hb5)]) (by rw [← hE, nApply_fall (by omega) hL (nWrB_f hb5), nWr_f hb5])

set_option maxRecDepth 100000 in
set_option maxHeartbeats 4000000 in
theorem c_N_forget (l : Launch) (D : va_G) (cI cJ : ClassId) (a : Nat → Nat) (me n f : Nat) (u : NS) (i : Nat) (hn : n ≤ 7) (hi : i < 35) (sz : Nat) : MWv l y_N_forget (wsM y_N_forget b_N_forget 4 none) { frames := 1, cells := 0, slots := 0, locals := 21 } D vwK (tyl cI cJ) (nW cI cJ a me n f u) (nW cI cJ a me n f (nForget u n i)) sz [.ref (a 0), .int (nI i)] := by
  refine gj_enterW (own := R_N) (by decide) rfl (Nat.le_of_ble_eq_true rfl) rfl rfl (fun p e s m below meth c cx hr hlk hK hsz => ?_)
  have hA : ∀ q, s.heap.size ≤ q → va_A (nW cI cJ a me n f u) sz q := fun q h => Or.inr (hsz ▸ h)
  refine gj_iconst (pc := 0) cx d_N_forget_0 (v := nI 0) (by decide) ?_
  refine gj_istore_n (pc := 1) cx d_N_forget_1 rfl (lo' := [(2, .int (nI 0)), (0, .ref (a 0)), (1, .int (nI i))]) (by decide) rfl ?_
  refine gj_eq (w' := nW cI cJ a me n f (nCo u, nFu u, nSu u, fgS u i 0, nCn u, nFr u, nBa u, nTo u, nAc u)) rfl rfl rfl (by rw [fgS_0]) ?_
  refine gj_pick (lo' := [(0, .ref (a 0)), (1, .int (nI i)), (2, .int (nI 0))]) [1, 2, 0] rfl ?_
  refine gj_forG (G := Gj p l e _ s m _ below meth c _ _ _ _ _) 3 2 (fun k => [(0, .ref (a 0)), (1, .int (nI i)), (2, .int (nI k))]) (fun k => nW cI cJ a me n f (nCo u, nFu u, nSu u, fgS u i k, nCn u, nFr u, nBa u, nTo u, nAc u)) (fun k hk ihk => ?_) 0 (by omega)
  refine gj_iload_n (pc := 2) cx d_N_forget_2 rfl (x := nI k) rfl ?_
  refine gj_iconst (pc := 3) cx d_N_forget_3 (v := nI 2) (by decide) ?_
  refine gj_icmp_gtN (pc := 4) cx d_N_forget_4 (tgt := 26) rfl (by omega) (by omega) (fun hb1 => ?_) (fun hb1 => ?_)
  · obtain rfl : k = 3 := by omega
    refine gj_iconst (pc := 26) cx d_N_forget_26 (v := nI 1) (by decide) ?_
    refine gj_istore_n (pc := 27) cx d_N_forget_27 rfl (lo' := [(2, .int (nI 1)), (0, .ref (a 0)), (1, .int (nI i))]) (by decide) rfl ?_
    refine gj_eq (w' := nW cI cJ a me n f (nCo u, nFu u, nSu u, fgS u i 3, nCn u, nFr u, nBa u, fgT u n i 1 0, nAc u)) rfl rfl rfl (by rw [fgT_0]) ?_
    refine gj_pick (lo' := [(0, .ref (a 0)), (1, .int (nI i)), (2, .int (nI 1))]) [1, 2, 0] rfl ?_
    refine gj_forH (G := Gj p l e _ s m _ below meth c _ _ _ _ _) (fun g => 1 ≤ g) 4 28 (fun g => [(0, .ref (a 0)), (1, .int (nI i)), (2, .int (nI g))]) (fun g => nW cI cJ a me n f (nCo u, nFu u, nSu u, fgS u i 3, nCn u, nFr u, nBa u, fgT u n i g 0, nAc u)) (fun g hg ihg qg => ?_) 1 (by omega) (by omega)
    refine gj_iload_n (pc := 28) cx d_N_forget_28 rfl (x := nI g) rfl ?_
    refine gj_iconst (pc := 29) cx d_N_forget_29 (v := nI 3) (by decide) ?_
    refine gj_icmp_gtN (pc := 30) cx d_N_forget_30 (tgt := 73) rfl (by omega) (by omega) (fun hb2 => ?_) (fun hb2 => ?_)
    · exact gj_vretW (pc := 73) cx hr hlk d_N_forget_73 (by rw [show g = 4 from (by omega)]; rfl)
    · refine gj_iconst (pc := 33) cx d_N_forget_33 (v := nI 0) (by decide) ?_
      refine gj_istore_n (pc := 34) cx d_N_forget_34 rfl (lo' := [(3, .int (nI 0)), (0, .ref (a 0)), (1, .int (nI i)), (2, .int (nI g))]) (by decide) rfl ?_
      refine gj_pick (lo' := [(0, .ref (a 0)), (1, .int (nI i)), (2, .int (nI g)), (3, .int (nI 0))]) [1, 2, 3, 0] rfl ?_
      refine gj_forG (G := Gj p l e _ s m _ below meth c _ _ _ _ _) n 35 (fun y => [(0, .ref (a 0)), (1, .int (nI i)), (2, .int (nI g)), (3, .int (nI y))]) (fun y => nW cI cJ a me n f (nCo u, nFu u, nSu u, fgS u i 3, nCn u, nFr u, nBa u, fgT u n i g y, nAc u)) (fun y hy ihy => ?_) 0 (by omega)
      refine gj_iload_n (pc := 35) cx d_N_forget_35 rfl (x := nI y) rfl ?_
      refine gj_aload_n (pc := 36) cx d_N_forget_36 rfl (x := a 0) rfl ?_
      refine gj_get (pc := 37) (ci := 0) (C := R_N) (T := T_N) (N := 12) (v := .int (nI n)) cx hK gj_wP in_N d_N_forget_37 0 rfl rfl 1 (by decide) (in_WT wm_34) rfl ?_
      refine gj_icmp_geN (pc := 40) cx d_N_forget_40 (tgt := 67) rfl (by omega) (by omega) (fun hb3 => ?_) (fun hb3 => ?_)
      · refine gj_iincN (pc := 67) cx d_N_forget_67 (k := 2) (d := 1) (lo' := [(2, .int (nI (g + 1))), (0, .ref (a 0)), (1, .int (nI i)), (3, .int (nI y))]) rfl (by decide) (by decide) rfl ?_
        refine gj_goto (pc := 70) cx d_N_forget_70 (tgt := 28) rfl ?_
        refine gj_pick (lo' := [(0, .ref (a 0)), (1, .int (nI i)), (2, .int (nI (g + 1)))]) [1, 2, 0] rfl ?_
        exact gj_eq rfl (rfl) rfl (by rw [← fgT_row, show y = n from (by omega)]) (ihg (by omega) (by omega))
      · refine gj_aload_n (pc := 43) cx d_N_forget_43 rfl (x := a 0) rfl ?_
        refine gj_get (pc := 44) (ci := 0) (C := R_N) (T := T_N) (N := 12) (v := .ref (a 5)) cx hK gj_wP in_N d_N_forget_44 0 rfl rfl 10 (by decide) (in_WT wm_43) rfl ?_
        refine gj_iload_n (pc := 47) cx d_N_forget_47 rfl (x := nI g) rfl ?_
        refine gj_iload_n (pc := 48) cx d_N_forget_48 rfl (x := nI i) rfl ?_
        refine gj_callSRi (pc := 49) (As := [.int (nI g), .int (nI i)]) (rest := [.ref (a 5)]) (v := nI (g * 35 + i)) cx hK (c_T_at l D (tyl cI cJ) g i ) (va_cwS 2 cx.2.2.2.2 (good_S wm_178 wm_176 wm_177 wm_6) rfl rfl rfl (by decide +kernel) ⟨Nat.le_of_ble_eq_true rfl, Nat.le_of_ble_eq_true rfl⟩) (fun _ _ _ => gj_P0) rfl rfl (Nat.le_of_ble_eq_true rfl) d_N_forget_49 ⟨Nat.zero_le _, Nat.zero_le _⟩ ?_
        refine gj_bipush (pc := 52) cx d_N_forget_52 (v := nI 7) (by decide) ?_
        refine gj_imulN (pc := 54) cx d_N_forget_54 ?_
        refine gj_iload_n (pc := 55) cx d_N_forget_55 rfl (x := nI y) rfl ?_
        refine gj_iaddN (pc := 56) cx d_N_forget_56 ?_
        refine gj_ldc2 (pc := 57) cx d_N_forget_57 (v := (-1)) (in_WT wm_29) ?_
        refine gj_last (pc := 60) (i := ((g * 35 + i) * 7) + y) (f := fgT u n i g y) (x := (-1)) (ws' := nW cI cJ a me n f (nCo u, nFu u, nSu u, fgS u i 3, nCn u, nFr u, nBa u, va_up (fgT u n i g y) (((g * 35 + i) * 7) + y) (-1), nAc u)) cx hK d_N_forget_60 5 1 rfl rfl (by omega) (by decide) rfl ?_
        refine gj_iincN (pc := 61) cx d_N_forget_61 (k := 3) (d := 1) (lo' := [(3, .int (nI (y + 1))), (0, .ref (a 0)), (1, .int (nI i)), (2, .int (nI g))]) rfl (by decide) (by decide) rfl ?_
        refine gj_goto (pc := 64) cx d_N_forget_64 (tgt := 35) rfl ?_
        refine gj_pick (lo' := [(0, .ref (a 0)), (1, .int (nI i)), (2, .int (nI g)), (3, .int (nI (y + 1)))]) [1, 2, 3, 0] rfl ?_
        exact gj_eq rfl (rfl) rfl (by rw [fgT_up hi (by omega) (by omega)]) (ihy (by omega))
  · refine gj_aload_n (pc := 7) cx d_N_forget_7 rfl (x := a 0) rfl ?_
    refine gj_get (pc := 8) (ci := 0) (C := R_N) (T := T_N) (N := 12) (v := .ref (a 1)) cx hK gj_wP in_N d_N_forget_8 0 rfl rfl 6 (by decide) (in_WT wm_39) rfl ?_
    refine gj_iload_n (pc := 11) cx d_N_forget_11 rfl (x := nI k) rfl ?_
    refine gj_iload_n (pc := 12) cx d_N_forget_12 rfl (x := nI i) rfl ?_
    refine gj_callSRi (pc := 13) (As := [.int (nI k), .int (nI i)]) (rest := [.ref (a 1)]) (v := nI (k * 35 + i)) cx hK (c_T_at l D (tyl cI cJ) k i ) (va_cwS 2 cx.2.2.2.2 (good_S wm_178 wm_176 wm_177 wm_6) rfl rfl rfl (by decide +kernel) ⟨Nat.le_of_ble_eq_true rfl, Nat.le_of_ble_eq_true rfl⟩) (fun _ _ _ => gj_P0) rfl rfl (Nat.le_of_ble_eq_true rfl) d_N_forget_13 ⟨Nat.zero_le _, Nat.zero_le _⟩ ?_
    refine gj_ldc2 (pc := 16) cx d_N_forget_16 (v := (-1)) (in_WT wm_29) ?_
    refine gj_last (pc := 19) (i := k * 35 + i) (f := fgS u i k) (x := (-1)) (ws' := nW cI cJ a me n f (nCo u, nFu u, nSu u, va_up (fgS u i k) (k * 35 + i) (-1), nCn u, nFr u, nBa u, nTo u, nAc u)) cx hK d_N_forget_19 1 1 rfl rfl (by omega) (by decide) rfl ?_
    refine gj_iincN (pc := 20) cx d_N_forget_20 (k := 2) (d := 1) (lo' := [(2, .int (nI (k + 1))), (0, .ref (a 0)), (1, .int (nI i))]) rfl (by decide) (by decide) rfl ?_
    refine gj_goto (pc := 23) cx d_N_forget_23 (tgt := 2) rfl ?_
    refine gj_pick (lo' := [(0, .ref (a 0)), (1, .int (nI i)), (2, .int (nI (k + 1)))]) [1, 2, 0] rfl ?_
    exact gj_eq rfl (rfl) rfl (by rw [fgS_up hi]) (ihk (by omega))
end
section
/-! Contracts of Node, third part, laid by wip/gen/m_node.py -/
set_option maxRecDepth 100000 in
set_option maxHeartbeats 4000000 in
theorem c_N_freeWhatIsMarked (l : Launch) (D : va_G) (cI cJ : ClassId) (a : Nat → Nat) (me n f : Nat) (u : NS)  (hok : nOk u) (hmk : nSa u 140 = -1 ∨ ∀ c, c < n → digN (nSa u 140) c ≤ 5) (hn : n ≤ 7) (hf : f ≤ 7) (sz : Nat) : MWv l y_N_freeWhatIsMarked (wsM y_N_freeWhatIsMarked b_N_freeWhatIsMarked 6 none) { frames := 2, cells := 0, slots := 0, locals := 44 } D vwK (tyl cI cJ) (nW cI cJ a me n f u) (nW cI cJ a me n f (nFree u n f)) sz [.ref (a 0)] := by
  obtain ⟨hco, hfu, hsu, hcn, hfr⟩ := id hok
  refine gj_enterW (own := R_N) (by decide) rfl (Nat.le_of_ble_eq_true rfl) rfl rfl (fun p e s m below meth c cx hr hlk hK hsz => ?_)
  have hA : ∀ q, s.heap.size ≤ q → va_A (nW cI cJ a me n f u) sz q := fun q h => Or.inr (hsz ▸ h)
  refine gj_aload_n (pc := 0) cx d_N_freeWhatIsMarked_0 rfl (x := a 0) rfl ?_
  refine gj_get (pc := 1) (ci := 0) (C := R_N) (T := T_N) (N := 12) (v := .ref (a 1)) cx hK gj_wP in_N d_N_freeWhatIsMarked_1 0 rfl rfl 6 (by decide) (in_WT wm_39) rfl ?_
  refine gj_sipush (pc := 4) cx d_N_freeWhatIsMarked_4 (v := nI 140) (by decide) ?_
  refine gj_lald (pc := 7) (i := 140) (f := nSa u) cx hK gj_wP d_N_freeWhatIsMarked_7 1 1 rfl rfl (by omega) (by decide) ?_
  refine gj_lstore_n (pc := 8) cx d_N_freeWhatIsMarked_8 rfl (lo' := [(1, .long (nSa u 140)), (0, .ref (a 0))]) (by decide) rfl ?_
  refine gj_lload_n (pc := 9) cx d_N_freeWhatIsMarked_9 rfl (x := nSa u 140) rfl ?_
  refine gj_ldc2 (pc := 10) cx d_N_freeWhatIsMarked_10 (v := (-1)) (in_WT wm_29) ?_
  refine gj_lcmp_eq (pc := 13) cx d_N_freeWhatIsMarked_13 d_N_freeWhatIsMarked_14 (tgt := 36) rfl (fun hb1 => ?_) (fun hb1 => ?_)
  · exact gj_vretW (pc := 36) cx hr hlk d_N_freeWhatIsMarked_36 (by rw [show nFree u n f = u from if_pos (Or.inl hb1)])
  · refine gj_aload_n (pc := 17) cx d_N_freeWhatIsMarked_17 rfl (x := a 0) rfl ?_
    refine gj_sipush (pc := 18) cx d_N_freeWhatIsMarked_18 (v := nI 140) (by decide) ?_
    refine gj_lload_n (pc := 21) cx d_N_freeWhatIsMarked_21 rfl (x := nSa u 140) rfl ?_
    refine gj_callVRi (pc := 22) (As := [.int (nI 140), .long (nSa u 140)]) (rest := []) (v := nI (nTellOf u 140 (nSa u 140) n)) cx hK (c_N_countTellersOf l D cI cJ a me n f u 140 (nSa u 140) (by omega) (by omega)) (cwV 2 cx.2.2.2.2 (good_V wm_187 wm_185 wm_186 wm_544 wm_3) rfl rfl rfl (by decide +kernel) ⟨Nat.le_of_ble_eq_true rfl, Nat.le_of_ble_eq_true rfl⟩) gj_wP 0 0 rfl rfl rfl rfl rfl (Nat.le_of_ble_eq_true rfl) d_N_freeWhatIsMarked_22 ⟨Nat.zero_le _, Nat.zero_le _⟩ ?_
    have hv2 := nTellOf_lt u 140 (nSa u 140) n
    refine gj_iconst (pc := 25) cx d_N_freeWhatIsMarked_25 (v := nI 2) (by decide) ?_
    refine gj_aload_n (pc := 26) cx d_N_freeWhatIsMarked_26 rfl (x := a 0) rfl ?_
    refine gj_get (pc := 27) (ci := 0) (C := R_N) (T := T_N) (N := 12) (v := .int (nI f)) cx hK gj_wP in_N d_N_freeWhatIsMarked_27 0 rfl rfl 2 (by decide) (in_WT wm_35) rfl ?_
    refine gj_imulN (pc := 30) cx d_N_freeWhatIsMarked_30 ?_
    refine gj_iconst (pc := 31) cx d_N_freeWhatIsMarked_31 (v := nI 1) (by decide) ?_
    refine gj_iaddN (pc := 32) cx d_N_freeWhatIsMarked_32 ?_
    refine gj_icmp_geN (pc := 33) cx d_N_freeWhatIsMarked_33 (tgt := 37) rfl (by omega) (by omega) (fun hb3 => ?_) (fun hb3 => ?_)
    · have hmk2 := hmk.resolve_left hb1
      refine gj_iconst (pc := 37) cx d_N_freeWhatIsMarked_37 (v := nI 0) (by decide) ?_
      refine gj_istore_n (pc := 38) cx d_N_freeWhatIsMarked_38 rfl (lo' := [(3, .int (nI 0)), (1, .long (nSa u 140)), (0, .ref (a 0))]) (by decide) rfl ?_
      refine gj_pick (lo' := [(0, .ref (a 0)), (1, .long (nSa u 140)), (3, .int (nI 0))]) [2, 1, 0] rfl ?_
      refine gj_forG (G := Gj p l e _ s m _ below meth c _ _ _ _ _) n 39 (fun b => [(0, .ref (a 0)), (1, .long (nSa u 140)), (3, .int (nI b))]) (fun b => nW cI cJ a me n f (nFreeTo n (nSa u 140) b u)) (fun b hb ihb => ?_) 0 (by omega)
      obtain ⟨x, hx⟩ : ∃ x, x = nFreeTo n (nSa u 140) b u := ⟨_, rfl⟩
      rw [← hx]
      have hokx : nOk x := hx ▸ nOk_freeTo hok b (fun c hc => hmk2 c (by omega))
      obtain ⟨hcox, hfux, hsux, hcnx, hfrx⟩ := id hokx
      refine gj_iload_n (pc := 39) cx d_N_freeWhatIsMarked_39 rfl (x := nI b) rfl ?_
      refine gj_aload_n (pc := 40) cx d_N_freeWhatIsMarked_40 rfl (x := a 0) rfl ?_
      refine gj_get (pc := 41) (ci := 0) (C := R_N) (T := T_N) (N := 12) (v := .int (nI n)) cx hK gj_wP in_N d_N_freeWhatIsMarked_41 0 rfl rfl 1 (by decide) (in_WT wm_34) rfl ?_
      refine gj_icmp_geN (pc := 44) cx d_N_freeWhatIsMarked_44 (tgt := 112) rfl (by omega) (by omega) (fun hb4 => ?_) (fun hb4 => ?_)
      · exact gj_vretW (pc := 112) cx hr hlk d_N_freeWhatIsMarked_112 (by rw [show nFree u n f = nFreeTo n (nSa u 140) n u from if_neg (fun z => z.elim hb1 (fun z => by omega)), hx, show b = n from (by omega)])
      · have hd5 := hmk2 b (by omega)
        refine gj_lload_n (pc := 47) cx d_N_freeWhatIsMarked_47 rfl (x := nSa u 140) rfl ?_
        refine gj_iload_n (pc := 48) cx d_N_freeWhatIsMarked_48 rfl (x := nI b) rfl ?_
        refine gj_callSRi (pc := 49) (As := [.long (nSa u 140), .int (nI b)]) (rest := []) (v := nI (digN (nSa u 140) b)) cx hK (c_P_digit l D (tyl cI cJ) (nSa u 140) b (by omega)) (va_cwS 2 cx.2.2.2.2 (good_S wm_151 wm_188 wm_150 wm_7) rfl rfl rfl (by decide +kernel) ⟨Nat.le_of_ble_eq_true rfl, Nat.le_of_ble_eq_true rfl⟩) (fun _ _ _ => gj_P0) rfl rfl (Nat.le_of_ble_eq_true rfl) d_N_freeWhatIsMarked_49 ⟨Nat.zero_le _, Nat.zero_le _⟩ ?_
        have hv5 := digN_lt (nSa u 140) b
        refine gj_istore (pc := 52) cx d_N_freeWhatIsMarked_52 (lo' := [(4, .int (nI (digN (nSa u 140) b))), (0, .ref (a 0)), (1, .long (nSa u 140)), (3, .int (nI b))]) (by decide) rfl ?_
        refine gj_aload_n (pc := 54) cx d_N_freeWhatIsMarked_54 rfl (x := a 0) rfl ?_
        refine gj_get (pc := 55) (ci := 0) (C := R_N) (T := T_N) (N := 12) (v := .ref (a 3)) cx hK gj_wP in_N d_N_freeWhatIsMarked_55 0 rfl rfl 8 (by decide) (in_WT wm_41) rfl ?_
        refine gj_iload_n (pc := 58) cx d_N_freeWhatIsMarked_58 rfl (x := nI b) rfl ?_
        refine gj_ialdN (pc := 59) (i := b) (f := nFr x) cx hK gj_wP d_N_freeWhatIsMarked_59 3 0 rfl rfl (by omega) (by decide) ?_
        have hv6 := hfrx b
        refine gj_iconst (pc := 60) cx d_N_freeWhatIsMarked_60 (v := nI 1) (by decide) ?_
        refine gj_iaddN (pc := 61) cx d_N_freeWhatIsMarked_61 ?_
        refine gj_istore (pc := 62) cx d_N_freeWhatIsMarked_62 (lo' := [(5, .int (nI (((nFr x) b) + 1))), (4, .int (nI (digN (nSa u 140) b))), (0, .ref (a 0)), (1, .long (nSa u 140)), (3, .int (nI b))]) (by decide) rfl ?_
        refine gj_pick (lo' := [(0, .ref (a 0)), (1, .long (nSa u 140)), (3, .int (nI b)), (4, .int (nI (digN (nSa u 140) b))), (5, .int (nI (((nFr x) b) + 1)))]) [2, 3, 4, 1, 0] rfl ?_
        refine gj_forG (G := Gj p l e _ s m _ below meth c _ _ _ _ _) (digN (nSa u 140) b - nFr x b) 64 (fun j => [(0, .ref (a 0)), (1, .long (nSa u 140)), (3, .int (nI b)), (4, .int (nI (digN (nSa u 140) b))), (5, .int (nI (nFr x b + 1 + j)))]) (fun j => nW cI cJ a me n f (nForgets n b (nFr x b) j x)) (fun j hj ihj => ?_) 0 (by omega)
        refine gj_iload (pc := 64) cx d_N_freeWhatIsMarked_64 (x := nI (nFr x b + 1 + j)) rfl ?_
        refine gj_iload (pc := 66) cx d_N_freeWhatIsMarked_66 (x := nI (digN (nSa u 140) b)) rfl ?_
        refine gj_icmp_gtN (pc := 68) cx d_N_freeWhatIsMarked_68 (tgt := 89) rfl (by omega) (by omega) (fun hb7 => ?_) (fun hb7 => ?_)
        · have hj : j = digN (nSa u 140) b - nFr x b := by omega
          subst hj
          refine gj_aload_n (pc := 89) cx d_N_freeWhatIsMarked_89 rfl (x := a 0) rfl ?_
          refine gj_get (pc := 90) (ci := 0) (C := R_N) (T := T_N) (N := 12) (v := .ref (a 3)) cx hK gj_wP in_N d_N_freeWhatIsMarked_90 0 rfl rfl 8 (by decide) (in_WT wm_41) rfl ?_
          refine gj_iload_n (pc := 93) cx d_N_freeWhatIsMarked_93 rfl (x := nI b) rfl ?_
          refine gj_aload_n (pc := 94) cx d_N_freeWhatIsMarked_94 rfl (x := a 0) rfl ?_
          refine gj_get (pc := 95) (ci := 0) (C := R_N) (T := T_N) (N := 12) (v := .ref (a 3)) cx hK gj_wP in_N d_N_freeWhatIsMarked_95 0 rfl rfl 8 (by decide) (in_WT wm_41) rfl ?_
          refine gj_iload_n (pc := 98) cx d_N_freeWhatIsMarked_98 rfl (x := nI b) rfl ?_
          refine gj_ialdN (pc := 99) (i := b) (f := nFr (nForgets n b (nFr x b) (digN (nSa u 140) b - nFr x b) x)) cx hK gj_wP d_N_freeWhatIsMarked_99 3 0 rfl rfl (by omega) (by decide) ?_
          refine gj_toi (y := nI (nFr x b)) (congrArg nI (congrFun (nForgets_fr _ _) b)) ?_
          refine gj_iload (pc := 100) cx d_N_freeWhatIsMarked_100 (x := nI (digN (nSa u 140) b)) rfl ?_
          refine gj_mmax (pc := 102) cx d_N_freeWhatIsMarked_102 (in_WT wm_115) (in_WT wm_21) (in_WT wm_2) (in_WT wm_22) (Nat.le_of_ble_eq_true rfl) (Nat.le_of_ble_eq_true rfl) (Nat.zero_le _) (Nat.zero_le _) ?_
          refine gj_toi (y := nI (max (nFr x b) (digN (nSa u 140) b))) (max_nI (by omega) (by omega)) ?_
          refine gj_iastN (pc := 105) (i := b) (f := nFr (nForgets n b (nFr x b) (digN (nSa u 140) b - nFr x b) x)) (x := max (nFr x b) (digN (nSa u 140) b)) (ws' := nW cI cJ a me n f (nCo (nForgets n b (nFr x b) (digN (nSa u 140) b - nFr x b) x), nFu (nForgets n b (nFr x b) (digN (nSa u 140) b - nFr x b) x), nSu (nForgets n b (nFr x b) (digN (nSa u 140) b - nFr x b) x), nSa (nForgets n b (nFr x b) (digN (nSa u 140) b - nFr x b) x), nCn (nForgets n b (nFr x b) (digN (nSa u 140) b - nFr x b) x), va_up (nFr (nForgets n b (nFr x b) (digN (nSa u 140) b - nFr x b) x)) b (max (nFr x b) (digN (nSa u 140) b)), nBa (nForgets n b (nFr x b) (digN (nSa u 140) b - nFr x b) x), nTo (nForgets n b (nFr x b) (digN (nSa u 140) b - nFr x b) x), nAc (nForgets n b (nFr x b) (digN (nSa u 140) b - nFr x b) x))) cx hK d_N_freeWhatIsMarked_105 3 0 rfl rfl (by omega) (by decide) rfl ?_
          refine gj_iincN (pc := 106) cx d_N_freeWhatIsMarked_106 (k := 2) (d := 1) (lo' := [(3, .int (nI (b + 1))), (0, .ref (a 0)), (1, .long (nSa u 140)), (4, .int (nI (digN (nSa u 140) b))), (5, .int (nI (nFr x b + 1 + (digN (nSa u 140) b - nFr x b))))]) rfl (by decide) (by decide) rfl ?_
          refine gj_goto (pc := 109) cx d_N_freeWhatIsMarked_109 (tgt := 39) rfl ?_
          refine gj_pick (lo' := [(0, .ref (a 0)), (1, .long (nSa u 140)), (3, .int (nI (b + 1)))]) [1, 2, 0] rfl ?_
          exact gj_eq rfl (rfl) rfl (by subst hx; rfl) (ihb (by omega))
        · refine gj_aload_n (pc := 71) cx d_N_freeWhatIsMarked_71 rfl (x := a 0) rfl ?_
          refine gj_iload_n (pc := 72) cx d_N_freeWhatIsMarked_72 rfl (x := nI b) rfl ?_
          refine gj_iconst (pc := 73) cx d_N_freeWhatIsMarked_73 (v := nI 5) (by decide) ?_
          refine gj_imulN (pc := 74) cx d_N_freeWhatIsMarked_74 ?_
          refine gj_iload (pc := 75) cx d_N_freeWhatIsMarked_75 (x := nI (nFr x b + 1 + j)) rfl ?_
          refine gj_iaddN (pc := 77) cx d_N_freeWhatIsMarked_77 ?_
          refine gj_iconst (pc := 78) cx d_N_freeWhatIsMarked_78 (v := nI 1) (by decide) ?_
          refine gj_isubN (pc := 79) cx d_N_freeWhatIsMarked_79 (by omega) ?_
          refine gj_toi (y := nI (b * 5 + (nFr x b + j))) (congrArg nI (by omega)) ?_
          refine gj_callVWv (pc := 80) (As := [.int (nI (b * 5 + (nFr x b + j)))]) (rest := []) (ws' := nW cI cJ a me n f (nForget (nForgets n b (nFr x b) j x) n (b * 5 + (nFr x b + j)))) cx hK hA (fun sz => c_N_forget l D cI cJ a me n f (nForgets n b (nFr x b) j x) (b * 5 + (nFr x b + j)) (by omega) (by omega) sz) (cwV 1 cx.2.2.2.2 (good_V wm_191 wm_189 wm_190 wm_545 wm_3) rfl rfl rfl (by decide +kernel) ⟨Nat.le_of_ble_eq_true rfl, Nat.le_of_ble_eq_true rfl⟩) gj_J.self 0 0 rfl rfl rfl rfl rfl (Nat.le_of_ble_eq_true rfl) d_N_freeWhatIsMarked_80 ⟨Nat.zero_le _, Nat.zero_le _⟩ ?_
          refine gj_iincN (pc := 83) cx d_N_freeWhatIsMarked_83 (k := 4) (d := 1) (lo' := [(5, .int (nI ((nFr x b + 1 + j) + 1))), (0, .ref (a 0)), (1, .long (nSa u 140)), (3, .int (nI b)), (4, .int (nI (digN (nSa u 140) b)))]) rfl (by decide) (by decide) rfl ?_
          refine gj_goto (pc := 86) cx d_N_freeWhatIsMarked_86 (tgt := 64) rfl ?_
          refine gj_pick (lo' := [(0, .ref (a 0)), (1, .long (nSa u 140)), (3, .int (nI b)), (4, .int (nI (digN (nSa u 140) b))), (5, .int (nI ((nFr x b + 1 + j) + 1)))]) [1, 2, 3, 4, 0] rfl ?_
          exact gj_eq rfl (rfl) rfl (rfl) (ihj (by omega))
    · exact gj_vretW (pc := 36) cx hr hlk d_N_freeWhatIsMarked_36 (by rw [show nFree u n f = u from if_pos (Or.inr hb3)])

set_option maxRecDepth 100000 in
set_option maxHeartbeats 4000000 in
theorem c_N_take (l : Launch) (D : va_G) (cI cJ : ClassId) (a : Nat → Nat) (me n f : Nat) (u : NS) (t : Nat) (y : Nat) (pp : Int64) (hok : nOk u) (hac : ∀ j, j < 35 → nAc u j ≠ -1 → payN (nAc u j) < n) (hmk : nSa u 140 = -1 ∨ ∀ c, c < n → digN (nSa u 140) c ≤ 5) (hn : n ≤ 7) (hf : f ≤ 7) (ht : t < 141) (hy : y < 7) (hpp : t = 140 ∨ payN pp < n) (sz : Nat) : MWi l y_N_take (wsM y_N_take b_N_take 7 (some .int)) { frames := 4, cells := 0, slots := 0, locals := 90 } D vwK (tyl cI cJ) (nW cI cJ a me n f u) (nW cI cJ a me n f ((nTake u n f t y pp).2)) sz [.ref (a 0), .int (nI t), .int (nI y), .long pp] ((nTake u n f t y pp).1) := by
  obtain ⟨hco, hfu, hsu, hcn, hfr⟩ := id hok
  refine gj_enterW (own := R_N) (by decide) rfl (Nat.le_of_ble_eq_true rfl) rfl rfl (fun p e s m below meth c cx hr hlk hK hsz => ?_)
  have hA : ∀ q, s.heap.size ≤ q → va_A (nW cI cJ a me n f u) sz q := fun q h => Or.inr (hsz ▸ h)
  refine gj_iload_n (pc := 0) cx d_N_take_0 rfl (x := nI t) rfl ?_
  refine gj_callSRi (pc := 1) (As := [.int (nI t)]) (rest := []) (v := nI (t / 35)) cx hK (c_T_kind l D (tyl cI cJ) t (by omega)) (va_cwS 1 cx.2.2.2.2 (good_S wm_169 wm_167 wm_168 wm_6) rfl rfl rfl (by decide +kernel) ⟨Nat.le_of_ble_eq_true rfl, Nat.le_of_ble_eq_true rfl⟩) (fun _ _ _ => gj_P0) rfl rfl (Nat.le_of_ble_eq_true rfl) d_N_take_1 ⟨Nat.zero_le _, Nat.zero_le _⟩ ?_
  refine gj_istore (pc := 4) cx d_N_take_4 (lo' := [(5, .int (nI (t / 35))), (0, .ref (a 0)), (1, .int (nI t)), (2, .int (nI y)), (3, .long pp)]) (by decide) rfl ?_
  refine gj_iload_n (pc := 6) cx d_N_take_6 rfl (x := nI t) rfl ?_
  refine gj_callSRi (pc := 7) (As := [.int (nI t)]) (rest := []) (v := nI (t % 35)) cx hK (c_T_instance l D (tyl cI cJ) t (by omega)) (va_cwS 1 cx.2.2.2.2 (good_S wm_175 wm_173 wm_174 wm_6) rfl rfl rfl (by decide +kernel) ⟨Nat.le_of_ble_eq_true rfl, Nat.le_of_ble_eq_true rfl⟩) (fun _ _ _ => gj_P0) rfl rfl (Nat.le_of_ble_eq_true rfl) d_N_take_7 ⟨Nat.zero_le _, Nat.zero_le _⟩ ?_
  refine gj_istore (pc := 10) cx d_N_take_10 (lo' := [(6, .int (nI (t % 35))), (5, .int (nI (t / 35))), (0, .ref (a 0)), (1, .int (nI t)), (2, .int (nI y)), (3, .long pp)]) (by decide) rfl ?_
  refine gj_iload (pc := 12) cx d_N_take_12 (x := nI (t / 35)) rfl ?_
  refine gj_if_neN (pc := 14) cx d_N_take_14 (tgt := 38) rfl (by omega) (fun hb1 => ?_) (fun hb1 => ?_)
  · refine gj_aload_n (pc := 38) cx d_N_take_38 rfl (x := a 0) rfl ?_
    refine gj_get (pc := 39) (ci := 0) (C := R_N) (T := T_N) (N := 12) (v := .ref (a 5)) cx hK gj_wP in_N d_N_take_39 0 rfl rfl 10 (by decide) (in_WT wm_43) rfl ?_
    refine gj_iload_n (pc := 42) cx d_N_take_42 rfl (x := nI t) rfl ?_
    refine gj_bipush (pc := 43) cx d_N_take_43 (v := nI 7) (by decide) ?_
    refine gj_imulN (pc := 45) cx d_N_take_45 ?_
    refine gj_iload_n (pc := 46) cx d_N_take_46 rfl (x := nI y) rfl ?_
    refine gj_iaddN (pc := 47) cx d_N_take_47 ?_
    refine gj_lload_n (pc := 48) cx d_N_take_48 rfl (x := pp) rfl ?_
    refine gj_last (pc := 49) (i := (t * 7) + y) (f := nTo u) (x := pp) (ws' := nW cI cJ a me n f (nCo u, nFu u, nSu u, nSa u, nCn u, nFr u, nBa u, va_up (nTo u) ((t * 7) + y) pp, nAc u)) cx hK d_N_take_49 5 1 rfl rfl (by omega) (by decide) rfl ?_
    obtain ⟨v, hv⟩ : ∃ v, v = sTo u (va_up (nTo u) (t * 7 + y) pp) := ⟨_, rfl⟩
    refine gj_eq (w' := nW cI cJ a me n f v) rfl rfl rfl (by rw [hv]) ?_
    have hokv : nOk v := hv ▸ ⟨hco, hfu, hsu, hcn, hfr⟩
    have hacv : ∀ j, j < 35 → nAc v j ≠ -1 → payN (nAc v j) < n := hv ▸ hac
    have hmkv : nSa v 140 = -1 ∨ ∀ c, c < n → digN (nSa v 140) c ≤ 5 := hv ▸ hmk
    refine gj_iload (pc := 50) cx d_N_take_50 (x := nI (t / 35)) rfl ?_
    refine gj_iconst (pc := 52) cx d_N_take_52 (v := nI 4) (by decide) ?_
    refine gj_icmp_neN (pc := 53) cx d_N_take_53 (tgt := 62) rfl (by omega) (by omega) (fun hb2 => ?_) (fun hb2 => ?_)
    · refine gj_aload_n (pc := 62) cx d_N_take_62 rfl (x := a 0) rfl ?_
      refine gj_iload (pc := 63) cx d_N_take_63 (x := nI (t / 35)) rfl ?_
      refine gj_iload (pc := 65) cx d_N_take_65 (x := nI (t % 35)) rfl ?_
      refine gj_lload_n (pc := 67) cx d_N_take_67 rfl (x := pp) rfl ?_
      refine gj_callVRi (pc := 68) (As := [.int (nI (t / 35)), .int (nI (t % 35)), .long pp]) (rest := []) (v := bI (nRdy v n f (t / 35) (t % 35) pp)) cx hK (c_N_callsForReady l D cI cJ a me n f v (t / 35) (t % 35) pp (by omega) (by omega) (by omega) (by omega)) (cwV 3 cx.2.2.2.2 (good_V wm_194 wm_192 wm_193 wm_546 wm_3) rfl rfl rfl (by decide +kernel) ⟨Nat.le_of_ble_eq_true rfl, Nat.le_of_ble_eq_true rfl⟩) gj_wP 0 0 rfl rfl rfl rfl rfl (Nat.le_of_ble_eq_true rfl) d_N_take_68 ⟨Nat.zero_le _, Nat.zero_le _⟩ ?_
      refine gj_if_eqB (pc := 71) cx d_N_take_71 (tgt := 91) rfl (fun hb3 => ?_) (fun hb3 => ?_)
      · obtain ⟨z, hzz⟩ : ∃ z, z = v := ⟨_, rfl⟩
        refine gj_eq (w' := nW cI cJ a me n f z) rfl rfl rfl (by rw [hzz]) ?_
        have hz := nTake_3 hv hb1 hb2 (Or.inr ⟨hb3, hzz⟩)
        have hokz : nOk z := hzz ▸ hokv
        have hacz : ∀ j, j < 35 → nAc z j ≠ -1 → payN (nAc z j) < n := hzz ▸ hacv
        refine gj_aload_n (pc := 91) cx d_N_take_91 rfl (x := a 0) rfl ?_
        refine gj_iload (pc := 92) cx d_N_take_92 (x := nI (t % 35)) rfl ?_
        refine gj_lload_n (pc := 94) cx d_N_take_94 rfl (x := pp) rfl ?_
        refine gj_callVRi (pc := 95) (As := [.int (nI (t % 35)), .long pp]) (rest := []) (v := bI (nAcq z n f (t % 35) pp)) cx hK (c_N_isAcceptable l D cI cJ a me n f z (t % 35) pp (hokz) (by omega) (by omega) (by omega)) (cwV 2 cx.2.2.2.2 (good_V wm_197 wm_195 wm_196 wm_547 wm_3) rfl rfl rfl (by decide +kernel) ⟨Nat.le_of_ble_eq_true rfl, Nat.le_of_ble_eq_true rfl⟩) gj_wP 0 0 rfl rfl rfl rfl rfl (Nat.le_of_ble_eq_true rfl) d_N_take_95 ⟨Nat.zero_le _, Nat.zero_le _⟩ ?_
        refine gj_if_eqB (pc := 98) cx d_N_take_98 (tgt := 109) rfl (fun hb4 => ?_) (fun hb4 => ?_)
        · rw [if_neg (by rw [hb4]; exact Bool.false_ne_true)] at hz
          refine gj_aload_n (pc := 109) cx d_N_take_109 rfl (x := a 0) rfl ?_
          refine gj_callVWi (pc := 110) (As := []) (rest := []) (v := (nApply n 35 0 z).1) (ws' := nW cI cJ a me n f ((nApply n 35 0 z).2)) cx hK hA (fun sz => c_N_applyWhatIsValid l D cI cJ a me n f z  (⟨hokz.1, hokz.2.1, hokz.2.2.1, hokz.2.2.2.1, hokz.2.2.2.2⟩) (by first | exact hacz | exact nAc_up hacz (hpp.resolve_left (by omega))) (by omega) sz) (cwV 0 cx.2.2.2.2 (good_V wm_200 wm_198 wm_199 wm_548 wm_3) rfl rfl rfl (by decide +kernel) ⟨Nat.le_of_ble_eq_true rfl, Nat.le_of_ble_eq_true rfl⟩) gj_J.self 0 0 rfl rfl rfl rfl rfl (Nat.le_of_ble_eq_true rfl) d_N_take_110 ⟨Nat.zero_le _, Nat.zero_le _⟩ ?_
          exact gj_iretW (pc := 113) cx hr hlk d_N_take_113 (by rw [hz]) (by rw [hz])
        · refine gj_aload_n (pc := 101) cx d_N_take_101 rfl (x := a 0) rfl ?_
          refine gj_get (pc := 102) (ci := 0) (C := R_N) (T := T_N) (N := 12) (v := .ref (a 6)) cx hK gj_wP in_N d_N_take_102 0 rfl rfl 11 (by decide) (in_WT wm_44) rfl ?_
          refine gj_iload (pc := 105) cx d_N_take_105 (x := nI (t % 35)) rfl ?_
          refine gj_lload_n (pc := 107) cx d_N_take_107 rfl (x := pp) rfl ?_
          refine gj_last (pc := 108) (i := t % 35) (f := nAc z) (x := pp) (ws' := nW cI cJ a me n f (nCo z, nFu z, nSu z, nSa z, nCn z, nFr z, nBa z, nTo z, va_up (nAc z) (t % 35) pp)) cx hK d_N_take_108 6 1 rfl rfl (by omega) (by decide) rfl ?_
          rw [if_pos hb4] at hz
          refine gj_aload_n (pc := 109) cx d_N_take_109 rfl (x := a 0) rfl ?_
          refine gj_callVWi (pc := 110) (As := []) (rest := []) (v := (nApply n 35 0 (nCo z, nFu z, nSu z, nSa z, nCn z, nFr z, nBa z, nTo z, va_up (nAc z) (t % 35) pp)).1) (ws' := nW cI cJ a me n f ((nApply n 35 0 (nCo z, nFu z, nSu z, nSa z, nCn z, nFr z, nBa z, nTo z, va_up (nAc z) (t % 35) pp)).2)) cx hK hA (fun sz => c_N_applyWhatIsValid l D cI cJ a me n f (nCo z, nFu z, nSu z, nSa z, nCn z, nFr z, nBa z, nTo z, va_up (nAc z) (t % 35) pp)  (⟨hokz.1, hokz.2.1, hokz.2.2.1, hokz.2.2.2.1, hokz.2.2.2.2⟩) (by first | exact hacz | exact nAc_up hacz (hpp.resolve_left (by omega))) (by omega) sz) (cwV 0 cx.2.2.2.2 (good_V wm_200 wm_198 wm_199 wm_548 wm_3) rfl rfl rfl (by decide +kernel) ⟨Nat.le_of_ble_eq_true rfl, Nat.le_of_ble_eq_true rfl⟩) gj_J.self 0 0 rfl rfl rfl rfl rfl (Nat.le_of_ble_eq_true rfl) d_N_take_110 ⟨Nat.zero_le _, Nat.zero_le _⟩ ?_
          exact gj_iretW (pc := 113) cx hr hlk d_N_take_113 (by rw [hz]) (by rw [hz])
      · refine gj_aload_n (pc := 74) cx d_N_take_74 rfl (x := a 0) rfl ?_
        refine gj_iconst (pc := 75) cx d_N_take_75 (v := nI 2) (by decide) ?_
        refine gj_iload (pc := 76) cx d_N_take_76 (x := nI (t % 35)) rfl ?_
        refine gj_callSRi (pc := 78) (As := [.int (nI 2), .int (nI (t % 35))]) (rest := [.ref (a 0)]) (v := nI (70 + (t % 35))) cx hK (c_T_at l D (tyl cI cJ) 2 (t % 35) ) (va_cwS 2 cx.2.2.2.2 (good_S wm_178 wm_176 wm_177 wm_6) rfl rfl rfl (by decide +kernel) ⟨Nat.le_of_ble_eq_true rfl, Nat.le_of_ble_eq_true rfl⟩) (fun _ _ _ => gj_P0) rfl rfl (Nat.le_of_ble_eq_true rfl) d_N_take_78 ⟨Nat.zero_le _, Nat.zero_le _⟩ ?_
        refine gj_lload_n (pc := 81) cx d_N_take_81 rfl (x := pp) rfl ?_
        refine gj_callVWi (pc := 82) (As := [.int (nI (70 + (t % 35))), .long pp]) (rest := []) (v := bI (nWrB v)) (ws' := nW cI cJ a me n f (nWr v (70 + (t % 35)) pp)) cx hK hA (fun sz => c_N_write l D cI cJ a me n f v (70 + (t % 35)) pp (hokv) (by omega) sz) (cwV 2 cx.2.2.2.2 (good_V wm_110 wm_108 wm_109 wm_537 wm_3) rfl rfl rfl (by decide +kernel) ⟨Nat.le_of_ble_eq_true rfl, Nat.le_of_ble_eq_true rfl⟩) gj_J.self 0 0 rfl rfl rfl rfl rfl (Nat.le_of_ble_eq_true rfl) d_N_take_82 ⟨Nat.zero_le _, Nat.zero_le _⟩ ?_
        refine gj_if_neB (pc := 85) cx d_N_take_85 (tgt := 91) rfl (fun hb5 => ?_) (fun hb5 => ?_)
        · obtain ⟨z, hzz⟩ : ∃ z, z = nWr v (70 + t % 35) pp := ⟨_, rfl⟩
          refine gj_eq (w' := nW cI cJ a me n f z) rfl rfl rfl (by rw [hzz]) ?_
          have hz := nTake_3 hv hb1 hb2 (Or.inl ⟨hb3, nWrB_t hb5, hzz⟩)
          have hokz : nOk z := hzz ▸ nOk_wr hokv
          have hacz : ∀ j, j < 35 → nAc z j ≠ -1 → payN (nAc z j) < n := by rw [hzz, nAc_wr (nWrB_t hb5)]; exact hacv
          refine gj_aload_n (pc := 91) cx d_N_take_91 rfl (x := a 0) rfl ?_
          refine gj_iload (pc := 92) cx d_N_take_92 (x := nI (t % 35)) rfl ?_
          refine gj_lload_n (pc := 94) cx d_N_take_94 rfl (x := pp) rfl ?_
          refine gj_callVRi (pc := 95) (As := [.int (nI (t % 35)), .long pp]) (rest := []) (v := bI (nAcq z n f (t % 35) pp)) cx hK (c_N_isAcceptable l D cI cJ a me n f z (t % 35) pp (hokz) (by omega) (by omega) (by omega)) (cwV 2 cx.2.2.2.2 (good_V wm_197 wm_195 wm_196 wm_547 wm_3) rfl rfl rfl (by decide +kernel) ⟨Nat.le_of_ble_eq_true rfl, Nat.le_of_ble_eq_true rfl⟩) gj_wP 0 0 rfl rfl rfl rfl rfl (Nat.le_of_ble_eq_true rfl) d_N_take_95 ⟨Nat.zero_le _, Nat.zero_le _⟩ ?_
          refine gj_if_eqB (pc := 98) cx d_N_take_98 (tgt := 109) rfl (fun hb6 => ?_) (fun hb6 => ?_)
          · rw [if_neg (by rw [hb6]; exact Bool.false_ne_true)] at hz
            refine gj_aload_n (pc := 109) cx d_N_take_109 rfl (x := a 0) rfl ?_
            refine gj_callVWi (pc := 110) (As := []) (rest := []) (v := (nApply n 35 0 z).1) (ws' := nW cI cJ a me n f ((nApply n 35 0 z).2)) cx hK hA (fun sz => c_N_applyWhatIsValid l D cI cJ a me n f z  (⟨hokz.1, hokz.2.1, hokz.2.2.1, hokz.2.2.2.1, hokz.2.2.2.2⟩) (by first | exact hacz | exact nAc_up hacz (hpp.resolve_left (by omega))) (by omega) sz) (cwV 0 cx.2.2.2.2 (good_V wm_200 wm_198 wm_199 wm_548 wm_3) rfl rfl rfl (by decide +kernel) ⟨Nat.le_of_ble_eq_true rfl, Nat.le_of_ble_eq_true rfl⟩) gj_J.self 0 0 rfl rfl rfl rfl rfl (Nat.le_of_ble_eq_true rfl) d_N_take_110 ⟨Nat.zero_le _, Nat.zero_le _⟩ ?_
            exact gj_iretW (pc := 113) cx hr hlk d_N_take_113 (by rw [hz]) (by rw [hz])
          · refine gj_aload_n (pc := 101) cx d_N_take_101 rfl (x := a 0) rfl ?_
            refine gj_get (pc := 102) (ci := 0) (C := R_N) (T := T_N) (N := 12) (v := .ref (a 6)) cx hK gj_wP in_N d_N_take_102 0 rfl rfl 11 (by decide) (in_WT wm_44) rfl ?_
            refine gj_iload (pc := 105) cx d_N_take_105 (x := nI (t % 35)) rfl ?_
            refine gj_lload_n (pc := 107) cx d_N_take_107 rfl (x := pp) rfl ?_
            refine gj_last (pc := 108) (i := t % 35) (f := nAc z) (x := pp) (ws' := nW cI cJ a me n f (nCo z, nFu z, nSu z, nSa z, nCn z, nFr z, nBa z, nTo z, va_up (nAc z) (t % 35) pp)) cx hK d_N_take_108 6 1 rfl rfl (by omega) (by decide) rfl ?_
            rw [if_pos hb6] at hz
            refine gj_aload_n (pc := 109) cx d_N_take_109 rfl (x := a 0) rfl ?_
            refine gj_callVWi (pc := 110) (As := []) (rest := []) (v := (nApply n 35 0 (nCo z, nFu z, nSu z, nSa z, nCn z, nFr z, nBa z, nTo z, va_up (nAc z) (t % 35) pp)).1) (ws' := nW cI cJ a me n f ((nApply n 35 0 (nCo z, nFu z, nSu z, nSa z, nCn z, nFr z, nBa z, nTo z, va_up (nAc z) (t % 35) pp)).2)) cx hK hA (fun sz => c_N_applyWhatIsValid l D cI cJ a me n f (nCo z, nFu z, nSu z, nSa z, nCn z, nFr z, nBa z, nTo z, va_up (nAc z) (t % 35) pp)  (⟨hokz.1, hokz.2.1, hokz.2.2.1, hokz.2.2.2.1, hokz.2.2.2.2⟩) (by first | exact hacz | exact nAc_up hacz (hpp.resolve_left (by omega))) (by omega) sz) (cwV 0 cx.2.2.2.2 (good_V wm_200 wm_198 wm_199 wm_548 wm_3) rfl rfl rfl (by decide +kernel) ⟨Nat.le_of_ble_eq_true rfl, Nat.le_of_ble_eq_true rfl⟩) gj_J.self 0 0 rfl rfl rfl rfl rfl (Nat.le_of_ble_eq_true rfl) d_N_take_110 ⟨Nat.zero_le _, Nat.zero_le _⟩ ?_
            exact gj_iretW (pc := 113) cx hr hlk d_N_take_113 (by rw [hz]) (by rw [hz])
        · refine gj_bipush (pc := 88) cx d_N_take_88 (v := (-7)) (by decide) ?_
          exact gj_iretW (pc := 90) cx hr hlk d_N_take_90 (by rw [nTake_7 hv hb1 hb2 hb3 (nWrB_f hb5)]) (by rw [nTake_7 hv hb1 hb2 hb3 (nWrB_f hb5), nWr_f hb5])
    · refine gj_aload_n (pc := 56) cx d_N_take_56 rfl (x := a 0) rfl ?_
      refine gj_callVWv (pc := 57) (As := []) (rest := []) (ws' := nW cI cJ a me n f (nFree v n f)) cx hK hA (fun sz => c_N_freeWhatIsMarked l D cI cJ a me n f v  (hokv) (hmkv) (by omega) (by omega) sz) (cwV 0 cx.2.2.2.2 (good_V wm_184 wm_182 wm_183 wm_543 wm_3) rfl rfl rfl (by decide +kernel) ⟨Nat.le_of_ble_eq_true rfl, Nat.le_of_ble_eq_true rfl⟩) gj_J.self 0 0 rfl rfl rfl rfl rfl (Nat.le_of_ble_eq_true rfl) d_N_take_57 ⟨Nat.zero_le _, Nat.zero_le _⟩ ?_
      refine gj_iconst (pc := 60) cx d_N_take_60 (v := nI 0) (by decide) ?_
      exact gj_iretW (pc := 61) cx hr hlk d_N_take_61 (by rw [nTake_4 hv hb2]; rfl) (by rw [nTake_4 hv hb2])
  · refine gj_aload_n (pc := 17) cx d_N_take_17 rfl (x := a 0) rfl ?_
    refine gj_iconst (pc := 18) cx d_N_take_18 (v := nI 1) (by decide) ?_
    refine gj_iload (pc := 19) cx d_N_take_19 (x := nI (t % 35)) rfl ?_
    refine gj_callSRi (pc := 21) (As := [.int (nI 1), .int (nI (t % 35))]) (rest := [.ref (a 0)]) (v := nI (35 + (t % 35))) cx hK (c_T_at l D (tyl cI cJ) 1 (t % 35) ) (va_cwS 2 cx.2.2.2.2 (good_S wm_178 wm_176 wm_177 wm_6) rfl rfl rfl (by decide +kernel) ⟨Nat.le_of_ble_eq_true rfl, Nat.le_of_ble_eq_true rfl⟩) (fun _ _ _ => gj_P0) rfl rfl (Nat.le_of_ble_eq_true rfl) d_N_take_21 ⟨Nat.zero_le _, Nat.zero_le _⟩ ?_
    refine gj_lload_n (pc := 24) cx d_N_take_24 rfl (x := pp) rfl ?_
    refine gj_callVWi (pc := 25) (As := [.int (nI (35 + (t % 35))), .long pp]) (rest := []) (v := bI (nWrB u)) (ws' := nW cI cJ a me n f (nWr u (35 + (t % 35)) pp)) cx hK hA (fun sz => c_N_write l D cI cJ a me n f u (35 + (t % 35)) pp (hok) (by omega) sz) (cwV 2 cx.2.2.2.2 (good_V wm_110 wm_108 wm_109 wm_537 wm_3) rfl rfl rfl (by decide +kernel) ⟨Nat.le_of_ble_eq_true rfl, Nat.le_of_ble_eq_true rfl⟩) gj_J.self 0 0 rfl rfl rfl rfl rfl (Nat.le_of_ble_eq_true rfl) d_N_take_25 ⟨Nat.zero_le _, Nat.zero_le _⟩ ?_
    refine gj_if_eqB (pc := 28) cx d_N_take_28 (tgt := 35) rfl (fun hb7 => ?_) (fun hb7 => ?_)
    · refine gj_bipush (pc := 35) cx d_N_take_35 (v := (-7)) (by decide) ?_
      exact gj_iretW (pc := 37) cx hr hlk d_N_take_37 (by rw [nTake_0 hb1, if_pos (nWrB_f hb7)]) (by rw [nTake_0 hb1])
    · refine gj_iconst (pc := 31) cx d_N_take_31 (v := nI 0) (by decide) ?_
      refine gj_goto (pc := 32) cx d_N_take_32 (tgt := 37) rfl ?_
      exact gj_iretW (pc := 37) cx hr hlk d_N_take_37 (by rw [nTake_0 hb1, if_neg (nWrB_t hb7)]; rfl) (by rw [nTake_0 hb1])

set_option maxRecDepth 100000 in
set_option maxHeartbeats 4000000 in
theorem c_N_receive (l : Launch) (D : va_G) (cI cJ : ClassId) (a : Nat → Nat) (me n f : Nat) (u : NS) (t : Nat) (y : Nat) (pp : Int64) (hok : nOk u) (hac : ∀ j, j < 35 → nAc u j ≠ -1 → payN (nAc u j) < n) (hmk : nSa u 140 = -1 ∨ ∀ c, c < n → digN (nSa u 140) c ≤ 5) (hn : n ≤ 7) (hf : f ≤ 7) (ht : t < 141) (hy : y < 7) (sz : Nat) : MWi l y_N_receive (wsM y_N_receive b_N_receive 6 (some .int)) { frames := 5, cells := 0, slots := 0, locals := 116 } D vwK (tyl cI cJ) (nW cI cJ a me n f u) (nW cI cJ a me n f ((nRecv u n f t y pp).2)) sz [.ref (a 0), .int (nI t), .int (nI y), .long pp] ((nRecv u n f t y pp).1) := by
  obtain ⟨hco, hfu, hsu, hcn, hfr⟩ := id hok
  refine gj_enterW (own := R_N) (by decide) rfl (Nat.le_of_ble_eq_true rfl) rfl rfl (fun p e s m below meth c cx hr hlk hK hsz => ?_)
  have hA : ∀ q, s.heap.size ≤ q → va_A (nW cI cJ a me n f u) sz q := fun q h => Or.inr (hsz ▸ h)
  refine gj_aload_n (pc := 0) cx d_N_receive_0 rfl (x := a 0) rfl ?_
  refine gj_iload_n (pc := 1) cx d_N_receive_1 rfl (x := nI t) rfl ?_
  refine gj_lload_n (pc := 2) cx d_N_receive_2 rfl (x := pp) rfl ?_
  refine gj_callVRi (pc := 3) (As := [.int (nI t), .long pp]) (rest := []) (v := bI (nWf t pp n)) cx hK (c_N_isWellFormed l D cI cJ a me n f u t pp (by omega) (by omega)) (cwV 2 cx.2.2.2.2 (good_V wm_145 wm_143 wm_144 wm_540 wm_3) rfl rfl rfl (by decide +kernel) ⟨Nat.le_of_ble_eq_true rfl, Nat.le_of_ble_eq_true rfl⟩) gj_wP 0 0 rfl rfl rfl rfl rfl (Nat.le_of_ble_eq_true rfl) d_N_receive_3 ⟨Nat.zero_le _, Nat.zero_le _⟩ ?_
  refine gj_if_neB (pc := 6) cx d_N_receive_6 (tgt := 12) rfl (fun hb1 => ?_) (fun hb1 => ?_)
  · refine gj_aload_n (pc := 12) cx d_N_receive_12 rfl (x := a 0) rfl ?_
    refine gj_iload_n (pc := 13) cx d_N_receive_13 rfl (x := nI t) rfl ?_
    refine gj_iload_n (pc := 14) cx d_N_receive_14 rfl (x := nI y) rfl ?_
    refine gj_lload_n (pc := 15) cx d_N_receive_15 rfl (x := pp) rfl ?_
    refine gj_callVRi (pc := 16) (As := [.int (nI t), .int (nI y), .long pp]) (rest := []) (v := nObj u t y pp) cx hK (c_N_objection l D cI cJ a me n f u t y pp (hok) (by omega) (by omega)) (cwV 3 cx.2.2.2.2 (good_V wm_166 wm_164 wm_165 wm_541 wm_3) rfl rfl rfl (by decide +kernel) ⟨Nat.le_of_ble_eq_true rfl, Nat.le_of_ble_eq_true rfl⟩) gj_wP 0 0 rfl rfl rfl rfl rfl (Nat.le_of_ble_eq_true rfl) d_N_receive_16 ⟨Nat.zero_le _, Nat.zero_le _⟩ ?_
    refine gj_istore (pc := 19) cx d_N_receive_19 (lo' := [(5, .int (nObj u t y pp)), (0, .ref (a 0)), (1, .int (nI t)), (2, .int (nI y)), (3, .long pp)]) (by decide) rfl ?_
    refine gj_iload (pc := 21) cx d_N_receive_21 (x := nObj u t y pp) rfl ?_
    refine gj_if_ne (pc := 23) cx d_N_receive_23 (tgt := 36) rfl (fun hb2 => ?_) (fun hb2 => ?_)
    · refine gj_iload (pc := 36) cx d_N_receive_36 (x := nObj u t y pp) rfl ?_
      exact gj_iretW (pc := 38) cx hr hlk d_N_receive_38 (by rw [nRecv, if_neg (by rw [hb1]; decide), if_neg hb2]) (by rw [nRecv, if_neg (by rw [hb1]; decide), if_neg hb2])
    · refine gj_aload_n (pc := 26) cx d_N_receive_26 rfl (x := a 0) rfl ?_
      refine gj_iload_n (pc := 27) cx d_N_receive_27 rfl (x := nI t) rfl ?_
      refine gj_iload_n (pc := 28) cx d_N_receive_28 rfl (x := nI y) rfl ?_
      refine gj_lload_n (pc := 29) cx d_N_receive_29 rfl (x := pp) rfl ?_
      refine gj_callVWi (pc := 30) (As := [.int (nI t), .int (nI y), .long pp]) (rest := []) (v := (nTake u n f t y pp).1) (ws' := nW cI cJ a me n f ((nTake u n f t y pp).2)) cx hK hA (fun sz => c_N_take l D cI cJ a me n f u t y pp (hok) (hac) (hmk) (by omega) (by omega) (by omega) (by omega) (nWf_pay hb1) sz) (cwV 3 cx.2.2.2.2 (good_V wm_181 wm_179 wm_180 wm_542 wm_3) rfl rfl rfl (by decide +kernel) ⟨Nat.le_of_ble_eq_true rfl, Nat.le_of_ble_eq_true rfl⟩) gj_J.self 0 0 rfl rfl rfl rfl rfl (Nat.le_of_ble_eq_true rfl) d_N_receive_30 ⟨Nat.zero_le _, Nat.zero_le _⟩ ?_
      refine gj_goto (pc := 33) cx d_N_receive_33 (tgt := 38) rfl ?_
      exact gj_iretW (pc := 38) cx hr hlk d_N_receive_38 (by rw [nRecv, if_neg (by rw [hb1]; decide), if_pos hb2]) (by rw [nRecv, if_neg (by rw [hb1]; decide), if_pos hb2])
  · refine gj_bipush (pc := 9) cx d_N_receive_9 (v := (-3)) (by decide) ?_
    exact gj_iretW (pc := 11) cx hr hlk d_N_receive_11 (by rw [nRecv, if_pos hb1]) (by rw [nRecv, if_pos hb1])
end
section
/-! Contracts of Node, fourth part, laid by wip/gen/m_node.py -/
set_option maxRecDepth 100000 in
set_option maxHeartbeats 4000000 in
theorem c_N_spendable (l : Launch) (D : va_G) (cI cJ : ClassId) (a : Nat → Nat) (me n f : Nat) (u : NS)  (hok : nOk u) (hme : me < 7) : MRl l y_N_spendable (wsM y_N_spendable b_N_spendable 4 (some .long)) { frames := 1, cells := 0, slots := 0, locals := 22 } D vwK (tyl cI cJ) (nW cI cJ a me n f u) [.ref (a 0)] (nSpend u me) := by
  obtain ⟨hco, hfu, hsu, hcn, hfr⟩ := id hok
  refine gj_enterR (own := R_N) (by decide) rfl (Nat.le_of_ble_eq_true rfl) rfl rfl (fun p e s m below meth c cx hr hlk hK => ?_)
  refine gj_aload_n (pc := 0) cx d_N_spendable_0 rfl (x := a 0) rfl ?_
  refine gj_get (pc := 1) (ci := 0) (C := R_N) (T := T_N) (N := 12) (v := .ref (a 4)) cx hK gj_rP in_N d_N_spendable_1 0 rfl rfl 9 (by decide) (in_WT wm_42) rfl ?_
  refine gj_aload_n (pc := 4) cx d_N_spendable_4 rfl (x := a 0) rfl ?_
  refine gj_get (pc := 5) (ci := 0) (C := R_N) (T := T_N) (N := 12) (v := .int (nI me)) cx hK gj_rP in_N d_N_spendable_5 0 rfl rfl 0 (by decide) (in_WT wm_33) rfl ?_
  refine gj_lald (pc := 8) (i := me) (f := nBa u) cx hK gj_rP d_N_spendable_8 4 1 rfl rfl (by omega) (by decide) ?_
  refine gj_lstore_n (pc := 9) cx d_N_spendable_9 rfl (lo' := [(1, .long (nBa u me)), (0, .ref (a 0))]) (by decide) rfl ?_
  refine gj_aload_n (pc := 10) cx d_N_spendable_10 rfl (x := a 0) rfl ?_
  refine gj_get (pc := 11) (ci := 0) (C := R_N) (T := T_N) (N := 12) (v := .ref (a 2)) cx hK gj_rP in_N d_N_spendable_11 0 rfl rfl 7 (by decide) (in_WT wm_40) rfl ?_
  refine gj_aload_n (pc := 14) cx d_N_spendable_14 rfl (x := a 0) rfl ?_
  refine gj_get (pc := 15) (ci := 0) (C := R_N) (T := T_N) (N := 12) (v := .int (nI me)) cx hK gj_rP in_N d_N_spendable_15 0 rfl rfl 0 (by decide) (in_WT wm_33) rfl ?_
  refine gj_ialdN (pc := 18) (i := me) (f := nCn u) cx hK gj_rP d_N_spendable_18 2 0 rfl rfl (by omega) (by decide) ?_
  have hv1 := hcn me
  refine gj_iconst (pc := 19) cx d_N_spendable_19 (v := nI 1) (by decide) ?_
  refine gj_iaddN (pc := 20) cx d_N_spendable_20 ?_
  refine gj_istore_n (pc := 21) cx d_N_spendable_21 rfl (lo' := [(3, .int (nI ((nCn u me) + 1))), (1, .long (nBa u me)), (0, .ref (a 0))]) (by decide) rfl ?_
  refine gj_pick (lo' := [(0, .ref (a 0)), (1, .long (nBa u me)), (3, .int (nI ((nCn u me) + 1)))]) [2, 1, 0] rfl ?_
  refine gj_forG (G := Gj p l e _ s m _ below meth c _ _ _ _ _) (nSu u - nCn u me) 22 (fun j => [(0, .ref (a 0)), (1, .long (nLeft u me (nCn u me) j)), (3, .int (nI (nCn u me + 1 + j)))]) (fun j => nW cI cJ a me n f u) (fun j hj ihj => ?_) 0 (by omega)
  refine gj_iload_n (pc := 22) cx d_N_spendable_22 rfl (x := nI (nCn u me + 1 + j)) rfl ?_
  refine gj_aload_n (pc := 23) cx d_N_spendable_23 rfl (x := a 0) rfl ?_
  refine gj_get (pc := 24) (ci := 0) (C := R_N) (T := T_N) (N := 12) (v := .int (nI (nSu u))) cx hK gj_rP in_N d_N_spendable_24 0 rfl rfl 5 (by decide) (in_WT wm_38) rfl ?_
  refine gj_icmp_gtN (pc := 27) cx d_N_spendable_27 (tgt := 57) rfl (by omega) (by omega) (fun hb2 => ?_) (fun hb2 => ?_)
  · refine gj_lload_n (pc := 57) cx d_N_spendable_57 rfl (x := nLeft u me (nCn u me) j) rfl ?_
    exact gj_lretR (pc := 58) cx hr hlk d_N_spendable_58 (by rw [show j = nSu u - nCn u me from (by omega)]; rfl)
  · refine gj_lload_n (pc := 30) cx d_N_spendable_30 rfl (x := nLeft u me (nCn u me) j) rfl ?_
    refine gj_aload_n (pc := 31) cx d_N_spendable_31 rfl (x := a 0) rfl ?_
    refine gj_get (pc := 32) (ci := 0) (C := R_N) (T := T_N) (N := 12) (v := .ref (a 1)) cx hK gj_rP in_N d_N_spendable_32 0 rfl rfl 6 (by decide) (in_WT wm_39) rfl ?_
    refine gj_iconst (pc := 35) cx d_N_spendable_35 (v := nI 0) (by decide) ?_
    refine gj_aload_n (pc := 36) cx d_N_spendable_36 rfl (x := a 0) rfl ?_
    refine gj_get (pc := 37) (ci := 0) (C := R_N) (T := T_N) (N := 12) (v := .int (nI me)) cx hK gj_rP in_N d_N_spendable_37 0 rfl rfl 0 (by decide) (in_WT wm_33) rfl ?_
    refine gj_iload_n (pc := 40) cx d_N_spendable_40 rfl (x := nI (nCn u me + 1 + j)) rfl ?_
    refine gj_callSRi (pc := 41) (As := [.int (nI 0), .int (nI me), .int (nI (nCn u me + 1 + j))]) (rest := [.ref (a 1), .long (nLeft u me (nCn u me) j)]) (v := nI ((0 + me) * 5 + (nCn u me + 1 + j) - 1)) cx hK (c_T_of l D (tyl cI cJ) 0 me (nCn u me + 1 + j) (by omega)) (va_cwS 3 cx.2.2.2.2 (good_S wm_90 wm_88 wm_89 wm_6) rfl rfl rfl (by decide +kernel) ⟨Nat.le_of_ble_eq_true rfl, Nat.le_of_ble_eq_true rfl⟩) (fun _ _ _ => gj_P0) rfl rfl (Nat.le_of_ble_eq_true rfl) d_N_spendable_41 ⟨Nat.zero_le _, Nat.zero_le _⟩ ?_
    refine gj_toi (y := nI (me * 5 + (nCn u me + j))) (congrArg nI (by omega)) ?_
    refine gj_lald (pc := 44) (i := me * 5 + (nCn u me + j)) (f := nSa u) cx hK gj_rP d_N_spendable_44 1 1 rfl rfl (by omega) (by decide) ?_
    refine gj_callSRi (pc := 45) (As := [.long (nSa u (me * 5 + (nCn u me + j)))]) (rest := [.long (nLeft u me (nCn u me) j)]) (v := nI (amtN (nSa u (me * 5 + (nCn u me + j))))) cx hK (c_P_amount l D (tyl cI cJ) (nSa u (me * 5 + (nCn u me + j))) ) (va_cwS 1 cx.2.2.2.2 (good_S wm_93 wm_91 wm_92 wm_7) rfl rfl rfl (by decide +kernel) ⟨Nat.le_of_ble_eq_true rfl, Nat.le_of_ble_eq_true rfl⟩) (fun _ _ _ => gj_P0) rfl rfl (Nat.le_of_ble_eq_true rfl) d_N_spendable_45 ⟨Nat.zero_le _, Nat.zero_le _⟩ ?_
    have hv3 := amtN_lt (nSa u (me * 5 + (nCn u me + j)))
    refine gj_i2l (pc := 48) cx d_N_spendable_48 rfl ?_
    refine gj_tol (y := lN (amtN (nSa u (me * 5 + (nCn u me + j))))) (nI_l (by omega)) ?_
    refine gj_lsub (pc := 49) cx d_N_spendable_49 ?_
    refine gj_lstore_n (pc := 50) cx d_N_spendable_50 rfl (lo' := [(1, .long ((nLeft u me (nCn u me) j) - (lN (amtN (nSa u (me * 5 + (nCn u me + j))))))), (0, .ref (a 0)), (3, .int (nI (nCn u me + 1 + j)))]) (by decide) rfl ?_
    refine gj_iincN (pc := 51) cx d_N_spendable_51 (k := 2) (d := 1) (lo' := [(3, .int (nI ((nCn u me + 1 + j) + 1))), (1, .long ((nLeft u me (nCn u me) j) - (lN (amtN (nSa u (me * 5 + (nCn u me + j))))))), (0, .ref (a 0))]) rfl (by decide) (by decide) rfl ?_
    refine gj_goto (pc := 54) cx d_N_spendable_54 (tgt := 22) rfl ?_
    refine gj_pick (lo' := [(0, .ref (a 0)), (1, .long ((nLeft u me (nCn u me) j) - (lN (amtN (nSa u (me * 5 + (nCn u me + j))))))), (3, .int (nI ((nCn u me + 1 + j) + 1)))]) [2, 1, 0] rfl ?_
    exact gj_eq rfl (rfl) rfl (rfl) (ihj (by omega))

set_option maxRecDepth 100000 in
set_option maxHeartbeats 4000000 in
theorem c_N_lastPaymentBy (l : Launch) (D : va_G) (cI cJ : ClassId) (a : Nat → Nat) (me n f : Nat) (u : NS) (b : Nat) (hok : nOk u) (hme : me < 7) (hb : b < 7) : MRi l y_N_lastPaymentBy (wsM y_N_lastPaymentBy b_N_lastPaymentBy 3 (some .int)) { frames := 1, cells := 0, slots := 0, locals := 22 } D vwK (tyl cI cJ) (nW cI cJ a me n f u) [.ref (a 0), .int (nI b)] (nI (nLast u me b (nCn u b))) := by
  obtain ⟨hco, hfu, hsu, hcn, hfr⟩ := id hok
  refine gj_enterR (own := R_N) (by decide) rfl (Nat.le_of_ble_eq_true rfl) rfl rfl (fun p e s m below meth c cx hr hlk hK => ?_)
  refine gj_aload_n (pc := 0) cx d_N_lastPaymentBy_0 rfl (x := a 0) rfl ?_
  refine gj_get (pc := 1) (ci := 0) (C := R_N) (T := T_N) (N := 12) (v := .ref (a 2)) cx hK gj_rP in_N d_N_lastPaymentBy_1 0 rfl rfl 7 (by decide) (in_WT wm_40) rfl ?_
  refine gj_iload_n (pc := 4) cx d_N_lastPaymentBy_4 rfl (x := nI b) rfl ?_
  refine gj_ialdN (pc := 5) (i := b) (f := nCn u) cx hK gj_rP d_N_lastPaymentBy_5 2 0 rfl rfl (by omega) (by decide) ?_
  have hv1 := hcn b
  refine gj_istore_n (pc := 6) cx d_N_lastPaymentBy_6 rfl (lo' := [(2, .int (nI (nCn u b))), (0, .ref (a 0)), (1, .int (nI b))]) (by decide) rfl ?_
  refine gj_pick (lo' := [(0, .ref (a 0)), (1, .int (nI b)), (2, .int (nI (nCn u b)))]) [1, 2, 0] rfl ?_
  refine gj_forH (G := Gj p l e _ s m _ below meth c _ _ _ _ _) (fun i => nLast u me b (nCn u b - i) = nLast u me b (nCn u b)) (nCn u b) 7 (fun i => [(0, .ref (a 0)), (1, .int (nI b)), (2, .int (nI (nCn u b - i)))]) (fun i => nW cI cJ a me n f u) (fun i hi ihi qi => ?_) 0 (by omega) (rfl)
  refine gj_iload_n (pc := 7) cx d_N_lastPaymentBy_7 rfl (x := nI (nCn u b - i)) rfl ?_
  refine gj_if_leN (pc := 8) cx d_N_lastPaymentBy_8 (tgt := 40) rfl (by have := hcn b; omega) (fun hb2 => ?_) (fun hb2 => ?_)
  · refine gj_iconst (pc := 40) cx d_N_lastPaymentBy_40 (v := nI 0) (by decide) ?_
    exact gj_iretR (pc := 41) cx hr hlk d_N_lastPaymentBy_41 (by rw [← qi, show nCn u b - i = 0 from (by omega)]; rfl)
  · refine gj_aload_n (pc := 11) cx d_N_lastPaymentBy_11 rfl (x := a 0) rfl ?_
    refine gj_get (pc := 12) (ci := 0) (C := R_N) (T := T_N) (N := 12) (v := .ref (a 1)) cx hK gj_rP in_N d_N_lastPaymentBy_12 0 rfl rfl 6 (by decide) (in_WT wm_39) rfl ?_
    refine gj_iconst (pc := 15) cx d_N_lastPaymentBy_15 (v := nI 3) (by decide) ?_
    refine gj_iload_n (pc := 16) cx d_N_lastPaymentBy_16 rfl (x := nI b) rfl ?_
    refine gj_iload_n (pc := 17) cx d_N_lastPaymentBy_17 rfl (x := nI (nCn u b - i)) rfl ?_
    refine gj_callSRi (pc := 18) (As := [.int (nI 3), .int (nI b), .int (nI (nCn u b - i))]) (rest := [.ref (a 1)]) (v := nI ((21 + b) * 5 + (nCn u b - i) - 1)) cx hK (c_T_of l D (tyl cI cJ) 3 b (nCn u b - i) (by omega)) (va_cwS 3 cx.2.2.2.2 (good_S wm_90 wm_88 wm_89 wm_6) rfl rfl rfl (by decide +kernel) ⟨Nat.le_of_ble_eq_true rfl, Nat.le_of_ble_eq_true rfl⟩) (fun _ _ _ => gj_P0) rfl rfl (Nat.le_of_ble_eq_true rfl) d_N_lastPaymentBy_18 ⟨Nat.zero_le _, Nat.zero_le _⟩ ?_
    refine gj_toi (y := nI (105 + b * 5 + (nCn u b - i - 1))) (congrArg nI (by omega)) ?_
    refine gj_lald (pc := 21) (i := 105 + b * 5 + (nCn u b - i - 1)) (f := nSa u) cx hK gj_rP d_N_lastPaymentBy_21 1 1 rfl rfl (by omega) (by decide) ?_
    refine gj_callSRi (pc := 22) (As := [.long (nSa u (105 + b * 5 + (nCn u b - i - 1)))]) (rest := []) (v := nI (payN (nSa u (105 + b * 5 + (nCn u b - i - 1))))) cx hK (c_P_payee l D (tyl cI cJ) (nSa u (105 + b * 5 + (nCn u b - i - 1))) ) (va_cwS 1 cx.2.2.2.2 (good_S wm_103 wm_101 wm_102 wm_7) rfl rfl rfl (by decide +kernel) ⟨Nat.le_of_ble_eq_true rfl, Nat.le_of_ble_eq_true rfl⟩) (fun _ _ _ => gj_P0) rfl rfl (Nat.le_of_ble_eq_true rfl) d_N_lastPaymentBy_22 ⟨Nat.zero_le _, Nat.zero_le _⟩ ?_
    have hv3 := payN_lt (nSa u (105 + b * 5 + (nCn u b - i - 1)))
    refine gj_aload_n (pc := 25) cx d_N_lastPaymentBy_25 rfl (x := a 0) rfl ?_
    refine gj_get (pc := 26) (ci := 0) (C := R_N) (T := T_N) (N := 12) (v := .int (nI me)) cx hK gj_rP in_N d_N_lastPaymentBy_26 0 rfl rfl 0 (by decide) (in_WT wm_33) rfl ?_
    refine gj_icmp_neN (pc := 29) cx d_N_lastPaymentBy_29 (tgt := 34) rfl (by omega) (by omega) (fun hb4 => ?_) (fun hb4 => ?_)
    · refine gj_iinc (pc := 34) cx d_N_lastPaymentBy_34 (k := 2) (v := nI ((nCn u b - i) - 1)) (lo' := [(2, .int (nI ((nCn u b - i) - 1))), (0, .ref (a 0)), (1, .int (nI b))]) rfl (gj_dec (by omega)) (by decide) rfl ?_
      refine gj_goto (pc := 37) cx d_N_lastPaymentBy_37 (tgt := 7) rfl ?_
      refine gj_pick (lo' := [(0, .ref (a 0)), (1, .int (nI b)), (2, .int (nI ((nCn u b - i) - 1)))]) [1, 2, 0] rfl ?_
      exact gj_eq rfl (rfl) rfl (rfl) (ihi (by omega) (by rw [← qi, nLast_pos (t := nCn u b - i) (by omega), if_neg hb4]; rfl))
    · refine gj_iload_n (pc := 32) cx d_N_lastPaymentBy_32 rfl (x := nI (nCn u b - i)) rfl ?_
      exact gj_iretR (pc := 33) cx hr hlk d_N_lastPaymentBy_33 (by rw [← qi, nLast_pos (t := nCn u b - i) (by omega), if_pos hb4])

set_option maxRecDepth 100000 in
set_option maxHeartbeats 4000000 in
theorem c_N_needs (l : Launch) (D : va_G) (cI cJ : ClassId) (a : Nat → Nat) (me n f : Nat) (u : NS)  (hok : nOk u) (hme : me < 7) (hn : n ≤ 7) : MRl l y_N_needs (wsM y_N_needs b_N_needs 4 (some .long)) { frames := 2, cells := 0, slots := 0, locals := 44 } D vwK (tyl cI cJ) (nW cI cJ a me n f u) [.ref (a 0)] (lN (nNeeds u me n)) := by
  obtain ⟨hco, hfu, hsu, hcn, hfr⟩ := id hok
  refine gj_enterR (own := R_N) (by decide) rfl (Nat.le_of_ble_eq_true rfl) rfl rfl (fun p e s m below meth c cx hr hlk hK => ?_)
  refine gj_lconst (pc := 0) cx d_N_needs_0 (v := 0) (by decide) ?_
  refine gj_lstore_n (pc := 1) cx d_N_needs_1 rfl (lo' := [(1, .long 0), (0, .ref (a 0))]) (by decide) rfl ?_
  refine gj_iconst (pc := 2) cx d_N_needs_2 (v := nI 0) (by decide) ?_
  refine gj_istore_n (pc := 3) cx d_N_needs_3 rfl (lo' := [(3, .int (nI 0)), (1, .long 0), (0, .ref (a 0))]) (by decide) rfl ?_
  refine gj_pick (lo' := [(0, .ref (a 0)), (1, .long 0), (3, .int (nI 0))]) [2, 1, 0] rfl ?_
  refine gj_forG (G := Gj p l e _ s m _ below meth c _ _ _ _ _) n 4 (fun i => [(0, .ref (a 0)), (1, .long (lN (digs (fun c => nLast u me c (nCn u c)) i))), (3, .int (nI i))]) (fun i => nW cI cJ a me n f u) (fun i hi ihi => ?_) 0 (by omega)
  refine gj_iload_n (pc := 4) cx d_N_needs_4 rfl (x := nI i) rfl ?_
  refine gj_aload_n (pc := 5) cx d_N_needs_5 rfl (x := a 0) rfl ?_
  refine gj_get (pc := 6) (ci := 0) (C := R_N) (T := T_N) (N := 12) (v := .int (nI n)) cx hK gj_rP in_N d_N_needs_6 0 rfl rfl 1 (by decide) (in_WT wm_34) rfl ?_
  refine gj_icmp_geN (pc := 9) cx d_N_needs_9 (tgt := 31) rfl (by omega) (by omega) (fun hb1 => ?_) (fun hb1 => ?_)
  · have hin : n = i := by omega
    subst hin
    refine gj_lload_n (pc := 31) cx d_N_needs_31 rfl (x := lN (nNeeds u me n)) rfl ?_
    exact gj_lretR (pc := 32) cx hr hlk d_N_needs_32 (rfl)
  · refine gj_lload_n (pc := 12) cx d_N_needs_12 rfl (x := lN (digs (fun c => nLast u me c (nCn u c)) i)) rfl ?_
    refine gj_aload_n (pc := 13) cx d_N_needs_13 rfl (x := a 0) rfl ?_
    refine gj_iload_n (pc := 14) cx d_N_needs_14 rfl (x := nI i) rfl ?_
    refine gj_callVRi (pc := 15) (As := [.int (nI i)]) (rest := [.long (lN (digs (fun c => nLast u me c (nCn u c)) i))]) (v := nI (nLast u me i (nCn u i))) cx hK (c_N_lastPaymentBy l D cI cJ a me n f u i (by omega) (by omega) (by omega)) (cwV 1 cx.2.2.2.2 (good_V wm_100 wm_98 wm_99 wm_536 wm_3) rfl rfl rfl (by decide +kernel) ⟨Nat.le_of_ble_eq_true rfl, Nat.le_of_ble_eq_true rfl⟩) gj_rP 0 0 rfl rfl rfl rfl rfl (Nat.le_of_ble_eq_true rfl) d_N_needs_15 ⟨Nat.zero_le _, Nat.zero_le _⟩ ?_
    refine gj_i2l (pc := 18) cx d_N_needs_18 rfl ?_
    refine gj_iconst (pc := 19) cx d_N_needs_19 (v := nI 3) (by decide) ?_
    refine gj_iload_n (pc := 20) cx d_N_needs_20 rfl (x := nI i) rfl ?_
    refine gj_imulN (pc := 21) cx d_N_needs_21 ?_
    refine gj_lshl (pc := 22) cx d_N_needs_22 rfl ?_
    refine gj_lor (pc := 23) cx d_N_needs_23 ?_
    refine gj_tol (y := lN (digs (fun c => nLast u me c (nCn u c)) (i + 1))) (digs_or (f := (fun c => nLast u me c (nCn u c))) (fun c => by have := hcn c; have := nLast_le u me c (nCn u c); omega) (by omega)) ?_
    refine gj_lstore_n (pc := 24) cx d_N_needs_24 rfl (lo' := [(1, .long (lN (digs (fun c => nLast u me c (nCn u c)) (i + 1)))), (0, .ref (a 0)), (3, .int (nI i))]) (by decide) rfl ?_
    refine gj_iincN (pc := 25) cx d_N_needs_25 (k := 2) (d := 1) (lo' := [(3, .int (nI (i + 1))), (1, .long (lN (digs (fun c => nLast u me c (nCn u c)) (i + 1)))), (0, .ref (a 0))]) rfl (by decide) (by decide) rfl ?_
    refine gj_goto (pc := 28) cx d_N_needs_28 (tgt := 4) rfl ?_
    refine gj_pick (lo' := [(0, .ref (a 0)), (1, .long (lN (digs (fun c => nLast u me c (nCn u c)) (i + 1)))), (3, .int (nI (i + 1)))]) [2, 1, 0] rfl ?_
    exact gj_eq rfl (rfl) rfl (rfl) (ihi (by omega))

set_option maxRecDepth 100000 in
set_option maxHeartbeats 4000000 in
theorem c_N_writeMark (l : Launch) (D : va_G) (cI cJ : ClassId) (a : Nat → Nat) (me n f : Nat) (u : NS)  (hok : nOk u) (hn : n ≤ 7) (sz : Nat) : MWi l y_N_writeMark (wsM y_N_writeMark b_N_writeMark 4 (some .int)) { frames := 3, cells := 0, slots := 0, locals := 67 } D vwK (tyl cI cJ) (nW cI cJ a me n f u) (nW cI cJ a me n f ((nMarkW u n).2)) sz [.ref (a 0)] ((nMarkW u n).1) := by
  obtain ⟨hco, hfu, hsu, hcn, hfr⟩ := id hok
  refine gj_enterW (own := R_N) (by decide) rfl (Nat.le_of_ble_eq_true rfl) rfl rfl (fun p e s m below meth c cx hr hlk hK hsz => ?_)
  have hA : ∀ q, s.heap.size ≤ q → va_A (nW cI cJ a me n f u) sz q := fun q h => Or.inr (hsz ▸ h)
  refine gj_lconst (pc := 0) cx d_N_writeMark_0 (v := 0) (by decide) ?_
  refine gj_lstore_n (pc := 1) cx d_N_writeMark_1 rfl (lo' := [(1, .long 0), (0, .ref (a 0))]) (by decide) rfl ?_
  refine gj_iconst (pc := 2) cx d_N_writeMark_2 (v := nI 0) (by decide) ?_
  refine gj_istore_n (pc := 3) cx d_N_writeMark_3 rfl (lo' := [(3, .int (nI 0)), (1, .long 0), (0, .ref (a 0))]) (by decide) rfl ?_
  refine gj_pick (lo' := [(0, .ref (a 0)), (1, .long 0), (3, .int (nI 0))]) [2, 1, 0] rfl ?_
  refine gj_forG (G := Gj p l e _ s m _ below meth c _ _ _ _ _) n 4 (fun i => [(0, .ref (a 0)), (1, .long (lN (digs (nCn u) i))), (3, .int (nI i))]) (fun i => nW cI cJ a me n f u) (fun i hi ihi => ?_) 0 (by omega)
  refine gj_iload_n (pc := 4) cx d_N_writeMark_4 rfl (x := nI i) rfl ?_
  refine gj_aload_n (pc := 5) cx d_N_writeMark_5 rfl (x := a 0) rfl ?_
  refine gj_get (pc := 6) (ci := 0) (C := R_N) (T := T_N) (N := 12) (v := .int (nI n)) cx hK gj_wP in_N d_N_writeMark_6 0 rfl rfl 1 (by decide) (in_WT wm_34) rfl ?_
  refine gj_icmp_geN (pc := 9) cx d_N_writeMark_9 (tgt := 32) rfl (by omega) (by omega) (fun hb1 => ?_) (fun hb1 => ?_)
  · have hin : n = i := by omega
    subst hin
    refine gj_aload_n (pc := 32) cx d_N_writeMark_32 rfl (x := a 0) rfl ?_
    refine gj_sipush (pc := 33) cx d_N_writeMark_33 (v := nI 140) (by decide) ?_
    refine gj_lload_n (pc := 36) cx d_N_writeMark_36 rfl (x := lN (nMark u n)) rfl ?_
    refine gj_callVWi (pc := 37) (As := [.int (nI 140), .long (lN (nMark u n))]) (rest := []) (v := bI (nWrB u)) (ws' := nW cI cJ a me n f (nWr u 140 (lN (nMark u n)))) cx hK hA (fun sz => c_N_write l D cI cJ a me n f u 140 (lN (nMark u n)) (hok) (by omega) sz) (cwV 2 cx.2.2.2.2 (good_V wm_110 wm_108 wm_109 wm_537 wm_3) rfl rfl rfl (by decide +kernel) ⟨Nat.le_of_ble_eq_true rfl, Nat.le_of_ble_eq_true rfl⟩) gj_J.self 0 0 rfl rfl rfl rfl rfl (Nat.le_of_ble_eq_true rfl) d_N_writeMark_37 ⟨Nat.zero_le _, Nat.zero_le _⟩ ?_
    refine gj_if_eqB (pc := 40) cx d_N_writeMark_40 (tgt := 48) rfl (fun hb2 => ?_) (fun hb2 => ?_)
    · refine gj_bipush (pc := 48) cx d_N_writeMark_48 (v := (-7)) (by decide) ?_
      exact gj_iretW (pc := 50) cx hr hlk d_N_writeMark_50 (by rw [nMarkW, if_pos (nWrB_f hb2)]) (by rw [nMarkW, if_pos (nWrB_f hb2), nWr_f hb2])
    · refine gj_lload_n (pc := 43) cx d_N_writeMark_43 rfl (x := lN (nMark u n)) rfl ?_
      refine gj_l2i (pc := 44) cx d_N_writeMark_44 rfl ?_
      refine gj_toi (y := nI (nMark u n)) (lN_toI) ?_
      refine gj_goto (pc := 45) cx d_N_writeMark_45 (tgt := 50) rfl ?_
      exact gj_iretW (pc := 50) cx hr hlk d_N_writeMark_50 (by rw [nMarkW, if_neg (nWrB_t hb2)]) (by rw [nMarkW, if_neg (nWrB_t hb2)])
  · refine gj_lload_n (pc := 12) cx d_N_writeMark_12 rfl (x := lN (digs (nCn u) i)) rfl ?_
    refine gj_aload_n (pc := 13) cx d_N_writeMark_13 rfl (x := a 0) rfl ?_
    refine gj_get (pc := 14) (ci := 0) (C := R_N) (T := T_N) (N := 12) (v := .ref (a 2)) cx hK gj_wP in_N d_N_writeMark_14 0 rfl rfl 7 (by decide) (in_WT wm_40) rfl ?_
    refine gj_iload_n (pc := 17) cx d_N_writeMark_17 rfl (x := nI i) rfl ?_
    refine gj_ialdN (pc := 18) (i := i) (f := nCn u) cx hK gj_wP d_N_writeMark_18 2 0 rfl rfl (by omega) (by decide) ?_
    have hv3 := hcn i
    refine gj_i2l (pc := 19) cx d_N_writeMark_19 rfl ?_
    refine gj_iconst (pc := 20) cx d_N_writeMark_20 (v := nI 3) (by decide) ?_
    refine gj_iload_n (pc := 21) cx d_N_writeMark_21 rfl (x := nI i) rfl ?_
    refine gj_imulN (pc := 22) cx d_N_writeMark_22 ?_
    refine gj_lshl (pc := 23) cx d_N_writeMark_23 rfl ?_
    refine gj_lor (pc := 24) cx d_N_writeMark_24 ?_
    refine gj_tol (y := lN (digs (nCn u) (i + 1))) (digs_or (f := nCn u) (fun c => by have := hcn c; omega) (by omega)) ?_
    refine gj_lstore_n (pc := 25) cx d_N_writeMark_25 rfl (lo' := [(1, .long (lN (digs (nCn u) (i + 1)))), (0, .ref (a 0)), (3, .int (nI i))]) (by decide) rfl ?_
    refine gj_iincN (pc := 26) cx d_N_writeMark_26 (k := 2) (d := 1) (lo' := [(3, .int (nI (i + 1))), (1, .long (lN (digs (nCn u) (i + 1)))), (0, .ref (a 0))]) rfl (by decide) (by decide) rfl ?_
    refine gj_goto (pc := 29) cx d_N_writeMark_29 (tgt := 4) rfl ?_
    refine gj_pick (lo' := [(0, .ref (a 0)), (1, .long (lN (digs (nCn u) (i + 1)))), (3, .int (nI (i + 1)))]) [2, 1, 0] rfl ?_
    exact gj_eq rfl (rfl) rfl (rfl) (ihi (by omega))

set_option maxRecDepth 100000 in
set_option maxHeartbeats 4000000 in
theorem c_N_writeSubmission (l : Launch) (D : va_G) (cI cJ : ClassId) (a : Nat → Nat) (me n f : Nat) (u : NS) (pay : Nat) (amt : Nat) (hok : nOk u) (hme : me < 7) (hn : n ≤ 7) (hp : pay < 8) (ha : amt < 1024) (sz : Nat) : MWi l y_N_writeSubmission (wsM y_N_writeSubmission b_N_writeSubmission 3 (some .int)) { frames := 3, cells := 0, slots := 0, locals := 67 } D vwK (tyl cI cJ) (nW cI cJ a me n f u) (nW cI cJ a me n f ((nSubmit u me n pay amt).2)) sz [.ref (a 0), .int (nI pay), .int (nI amt)] ((nSubmit u me n pay amt).1) := by
  obtain ⟨hco, hfu, hsu, hcn, hfr⟩ := id hok
  refine gj_enterW (own := R_N) (by decide) rfl (Nat.le_of_ble_eq_true rfl) rfl rfl (fun p e s m below meth c cx hr hlk hK hsz => ?_)
  have hA : ∀ q, s.heap.size ≤ q → va_A (nW cI cJ a me n f u) sz q := fun q h => Or.inr (hsz ▸ h)
  refine gj_aload_n (pc := 0) cx d_N_writeSubmission_0 rfl (x := a 0) rfl ?_
  refine gj_get (pc := 1) (ci := 0) (C := R_N) (T := T_N) (N := 12) (v := .int (nI (nSu u))) cx hK gj_wP in_N d_N_writeSubmission_1 0 rfl rfl 5 (by decide) (in_WT wm_38) rfl ?_
  refine gj_iconst (pc := 4) cx d_N_writeSubmission_4 (v := nI 5) (by decide) ?_
  refine gj_icmp_ltN (pc := 5) cx d_N_writeSubmission_5 (tgt := 11) rfl (by omega) (by omega) (fun hb1 => ?_) (fun hb1 => ?_)
  · refine gj_aload_n (pc := 11) cx d_N_writeSubmission_11 rfl (x := a 0) rfl ?_
    refine gj_callVRl (pc := 12) (As := []) (rest := []) (v := nSpend u me) cx hK (c_N_spendable l D cI cJ a me n f u  (hok) (by omega)) (cwV 0 cx.2.2.2.2 (good_V wm_87 wm_85 wm_86 wm_534 wm_3) rfl rfl rfl (by decide +kernel) ⟨Nat.le_of_ble_eq_true rfl, Nat.le_of_ble_eq_true rfl⟩) gj_wP 0 0 rfl rfl rfl rfl rfl (Nat.le_of_ble_eq_true rfl) d_N_writeSubmission_12 ⟨Nat.zero_le _, Nat.zero_le _⟩ ?_
    refine gj_iload_n (pc := 15) cx d_N_writeSubmission_15 rfl (x := nI amt) rfl ?_
    refine gj_i2l (pc := 16) cx d_N_writeSubmission_16 rfl ?_
    refine gj_tol (y := lN amt) (nI_l (by omega)) ?_
    refine gj_lcmp_ge (pc := 17) cx d_N_writeSubmission_17 d_N_writeSubmission_18 (tgt := 24) rfl (fun hb2 => ?_) (fun hb2 => ?_)
    · refine gj_aload_n (pc := 24) cx d_N_writeSubmission_24 rfl (x := a 0) rfl ?_
      refine gj_iconst (pc := 25) cx d_N_writeSubmission_25 (v := nI 0) (by decide) ?_
      refine gj_aload_n (pc := 26) cx d_N_writeSubmission_26 rfl (x := a 0) rfl ?_
      refine gj_get (pc := 27) (ci := 0) (C := R_N) (T := T_N) (N := 12) (v := .int (nI me)) cx hK gj_wP in_N d_N_writeSubmission_27 0 rfl rfl 0 (by decide) (in_WT wm_33) rfl ?_
      refine gj_aload_n (pc := 30) cx d_N_writeSubmission_30 rfl (x := a 0) rfl ?_
      refine gj_get (pc := 31) (ci := 0) (C := R_N) (T := T_N) (N := 12) (v := .int (nI (nSu u))) cx hK gj_wP in_N d_N_writeSubmission_31 0 rfl rfl 5 (by decide) (in_WT wm_38) rfl ?_
      refine gj_iconst (pc := 34) cx d_N_writeSubmission_34 (v := nI 1) (by decide) ?_
      refine gj_iaddN (pc := 35) cx d_N_writeSubmission_35 ?_
      refine gj_callSRi (pc := 36) (As := [.int (nI 0), .int (nI me), .int (nI ((nSu u) + 1))]) (rest := [.ref (a 0)]) (v := nI ((0 + me) * 5 + ((nSu u) + 1) - 1)) cx hK (c_T_of l D (tyl cI cJ) 0 me ((nSu u) + 1) (by omega)) (va_cwS 3 cx.2.2.2.2 (good_S wm_90 wm_88 wm_89 wm_6) rfl rfl rfl (by decide +kernel) ⟨Nat.le_of_ble_eq_true rfl, Nat.le_of_ble_eq_true rfl⟩) (fun _ _ _ => gj_P0) rfl rfl (Nat.le_of_ble_eq_true rfl) d_N_writeSubmission_36 ⟨Nat.zero_le _, Nat.zero_le _⟩ ?_
      refine gj_toi (y := nI (me * 5 + nSu u)) (congrArg nI (by omega)) ?_
      refine gj_iload_n (pc := 39) cx d_N_writeSubmission_39 rfl (x := nI pay) rfl ?_
      refine gj_iload_n (pc := 40) cx d_N_writeSubmission_40 rfl (x := nI amt) rfl ?_
      refine gj_aload_n (pc := 41) cx d_N_writeSubmission_41 rfl (x := a 0) rfl ?_
      refine gj_callVRl (pc := 42) (As := []) (rest := [.int (nI amt), .int (nI pay), .int (nI (me * 5 + nSu u)), .ref (a 0)]) (v := lN (nNeeds u me n)) cx hK (c_N_needs l D cI cJ a me n f u  (hok) (by omega) (by omega)) (cwV 0 cx.2.2.2.2 (good_V wm_97 wm_95 wm_96 wm_535 wm_3) rfl rfl rfl (by decide +kernel) ⟨Nat.le_of_ble_eq_true rfl, Nat.le_of_ble_eq_true rfl⟩) gj_wP 0 0 rfl rfl rfl rfl rfl (Nat.le_of_ble_eq_true rfl) d_N_writeSubmission_42 ⟨Nat.zero_le _, Nat.zero_le _⟩ ?_
      refine gj_callSRl (pc := 45) (As := [.int (nI pay), .int (nI amt), .long (lN (nNeeds u me n))]) (rest := [.int (nI (me * 5 + nSu u)), .ref (a 0)]) (v := lN (pay + 8 * amt + 8192 * (nNeeds u me n))) cx hK (c_P_make l D (tyl cI cJ) pay amt (lN (nNeeds u me n)) (nNeeds u me n) (by omega) (by omega) (nNeeds_lt hcn me hn) (rfl)) (va_cwS 3 cx.2.2.2.2 (good_S wm_107 wm_105 wm_106 wm_7) rfl rfl rfl (by decide +kernel) ⟨Nat.le_of_ble_eq_true rfl, Nat.le_of_ble_eq_true rfl⟩) (fun _ _ _ => gj_P0) rfl rfl (Nat.le_of_ble_eq_true rfl) d_N_writeSubmission_45 ⟨Nat.zero_le _, Nat.zero_le _⟩ ?_
      refine gj_callVWi (pc := 48) (As := [.int (nI (me * 5 + nSu u)), .long (lN (pay + 8 * amt + 8192 * (nNeeds u me n)))]) (rest := []) (v := bI (nWrB u)) (ws' := nW cI cJ a me n f (nWr u (me * 5 + nSu u) (lN (pay + 8 * amt + 8192 * (nNeeds u me n))))) cx hK hA (fun sz => c_N_write l D cI cJ a me n f u (me * 5 + nSu u) (lN (pay + 8 * amt + 8192 * (nNeeds u me n))) (hok) (by omega) sz) (cwV 2 cx.2.2.2.2 (good_V wm_110 wm_108 wm_109 wm_537 wm_3) rfl rfl rfl (by decide +kernel) ⟨Nat.le_of_ble_eq_true rfl, Nat.le_of_ble_eq_true rfl⟩) gj_J.self 0 0 rfl rfl rfl rfl rfl (Nat.le_of_ble_eq_true rfl) d_N_writeSubmission_48 ⟨Nat.zero_le _, Nat.zero_le _⟩ ?_
      refine gj_if_neB (pc := 51) cx d_N_writeSubmission_51 (tgt := 57) rfl (fun hb3 => ?_) (fun hb3 => ?_)
      · refine gj_eq (w' := nW cI cJ a me n f (nCo u, nFu u - 1, nSu u, va_up (nSa u) (me * 5 + nSu u) (lN (pay + 8 * amt + 8192 * nNeeds u me n)), nCn u, nFr u, nBa u, nTo u, nAc u)) rfl rfl rfl (by rw [nWr_t hb3]) ?_
        refine gj_aload_n (pc := 57) cx d_N_writeSubmission_57 rfl (x := a 0) rfl ?_
        refine gj_dup (pc := 58) cx d_N_writeSubmission_58 rfl ?_
        refine gj_get (pc := 59) (ci := 0) (C := R_N) (T := T_N) (N := 12) (v := .int (nI (nSu u))) cx hK gj_wP in_N d_N_writeSubmission_59 0 rfl rfl 5 (by decide) (in_WT wm_38) rfl ?_
        refine gj_iconst (pc := 62) cx d_N_writeSubmission_62 (v := nI 1) (by decide) ?_
        refine gj_iaddN (pc := 63) cx d_N_writeSubmission_63 ?_
        refine gj_put (pc := 64) (ci := 0) (C := R_N) (T := T_N) (N := 12) (ty := .int) (v := .int (nI ((nSu u) + 1))) (ws' := nW cI cJ a me n f (nCo u, nFu u - 1, (nSu u) + 1, va_up (nSa u) (me * 5 + nSu u) (lN (pay + 8 * amt + 8192 * nNeeds u me n)), nCn u, nFr u, nBa u, nTo u, nAc u)) cx hK in_N ty_N ty_N_ok nm_N d_N_writeSubmission_64 0 rfl rfl 5 (by decide) (in_WT wm_38) rfl (by decide +kernel) rfl rfl (Nat.le_of_ble_eq_true rfl) rfl ?_
        refine gj_aload_n (pc := 67) cx d_N_writeSubmission_67 rfl (x := a 0) rfl ?_
        refine gj_get (pc := 68) (ci := 0) (C := R_N) (T := T_N) (N := 12) (v := .int (nI ((nSu u) + 1))) cx hK gj_wP in_N d_N_writeSubmission_68 0 rfl rfl 5 (by decide) (in_WT wm_38) rfl ?_
        exact gj_iretW (pc := 71) cx hr hlk d_N_writeSubmission_71 (by rw [nSubmit, if_neg (by omega), if_neg (Int64.not_lt.mpr hb2), if_neg (nWrB_t hb3)]) (by rw [nSubmit, if_neg (by omega), if_neg (Int64.not_lt.mpr hb2), if_neg (nWrB_t hb3), nWr_t hb3])
      · refine gj_bipush (pc := 54) cx d_N_writeSubmission_54 (v := (-7)) (by decide) ?_
        exact gj_iretW (pc := 56) cx hr hlk d_N_writeSubmission_56 (by rw [nSubmit, if_neg (by omega), if_neg (Int64.not_lt.mpr hb2), if_pos (nWrB_f hb3)]) (by rw [nSubmit, if_neg (by omega), if_neg (Int64.not_lt.mpr hb2), if_pos (nWrB_f hb3), nWr_f hb3])
    · refine gj_bipush (pc := 21) cx d_N_writeSubmission_21 (v := (-9)) (by decide) ?_
      exact gj_iretW (pc := 23) cx hr hlk d_N_writeSubmission_23 (by rw [nSubmit, if_neg (by omega), if_pos (Int64.not_le.mp hb2)] <;> rfl) (by rw [nSubmit, if_neg (by omega), if_pos (Int64.not_le.mp hb2)] <;> rfl)
  · refine gj_bipush (pc := 8) cx d_N_writeSubmission_8 (v := (-8)) (by decide) ?_
    exact gj_iretW (pc := 10) cx hr hlk d_N_writeSubmission_10 (by rw [nSubmit, if_pos hb1] <;> rfl) (by rw [nSubmit, if_pos hb1] <;> rfl)
end
section
/-! The whole object: its cells, and a node's part of them -/
theorem gj_mem {D : va_G} {cl : List vw_C} {ws wc : va_W} {H : Heap} (h : va_P D cl ws H) (hs : ∀ q ∈ wc, q ∈ ws) : va_P D cl wc H := by
  intro k q hk
  obtain ⟨i, hi⟩ := List.getElem?_of_mem (hs q (List.mem_of_getElem? hk))
  exact h i q hi
theorem gj_D_iff {A : Nat → Prop} {ws : va_W} : va_D A ws ↔ (ws.map Prod.fst).Nodup ∧ ∀ q ∈ ws, A q.1 := by
  constructor
  · intro h
    refine ⟨?_, fun q hq => ?_⟩
    · unfold List.Nodup
      rw [List.pairwise_map, List.pairwise_iff_getElem]
      intro i j hi hj hij e
      have := h.1 i j ws[i] ws[j] (List.getElem?_eq_getElem hi) (List.getElem?_eq_getElem hj) e
      omega
    · obtain ⟨i, hi⟩ := List.getElem?_of_mem hq
      exact h.2 i q hi
  · intro ⟨h1, h2⟩
    unfold List.Nodup at h1
    rw [List.pairwise_map, List.pairwise_iff_getElem] at h1
    refine ⟨fun i j p q hi hj e => ?_, fun k q hk => h2 q (List.mem_of_getElem? hk)⟩
    obtain ⟨li, rfl⟩ := List.getElem?_eq_some_iff.mp hi
    obtain ⟨lj, rfl⟩ := List.getElem?_eq_some_iff.mp hj
    rcases Nat.lt_trichotomy i j with h | h | h
    · exact absurd e (h1 i j li lj h)
    · exact h
    · exact absurd e.symm (h1 j i lj li h)
theorem gj_J_of {D : va_G} {cl : List vw_C} {A : Nat → Prop} {ws wc wc' ws' : va_W} (hs : ∀ q ∈ wc, q ∈ ws) (hsub : va_D A ws → va_D A wc) (haddr : ws'.map Prod.fst = ws.map Prod.fst) (hnew : va_D A ws → ∀ q ∈ ws', q ∈ wc' ∨ (q ∈ ws ∧ ∀ r ∈ wc, r.1 ≠ q.1)) : gj_J D cl A ws wc wc' ws' := by
  refine ⟨fun H hP => gj_mem hP hs, hsub, fun H H1 hP hD hk _ hP1 _ => ⟨fun i q hq => ?_, ?_⟩⟩
  · rcases hnew hD q (List.mem_of_getElem? hq) with h | ⟨h, hne⟩
    · obtain ⟨j, hj⟩ := List.getElem?_of_mem h
      exact hP1 j q hj
    · obtain ⟨j, hj⟩ := List.getElem?_of_mem h
      have hlt := (hP j q hj).lt
      refine (hP j q hj).kept (hk q.1 hlt (fun z => ?_))
      rcases z with ⟨k2, e, hz⟩ | z
      · exact hne _ (List.mem_of_getElem? hz) rfl
      · omega
  · rw [gj_D_iff] at hD ⊢
    refine ⟨by rw [haddr]; exact hD.1, fun q hq => ?_⟩
    have h1 : q.1 ∈ ws'.map Prod.fst := List.mem_map.mpr ⟨q, hq, rfl⟩
    rw [haddr] at h1
    obtain ⟨r, hr, e⟩ := List.mem_map.mp h1
    rw [← e]
    exact hD.2 r hr
abbrev tyo (cI cJ cO : ClassId) : List (ClassId × FieldType) := [(cI, .int), (cJ, .long), (cO, .object "EchoPayments$Node")]
def oN (cI cJ : ClassId) (ad : Nat → Nat → Nat) (n f : Nat) (σ : Nat → NS) : va_W := (List.range n).flatMap (fun x => nW cI cJ (ad x) x n f (σ x))
def oW (cI cJ cO : ClassId) (h hN : Nat) (ad : Nat → Nat → Nat) (n f fa : Nat) (σ : Nat → NS) : va_W :=
  (h, .inr (1, [.int (nI n), .int (nI f), .ref hN, .int (nI fa)])) :: (hN, .inl (cO, n, .inr (.inr (.inr (.inr (fun x => some (ad x 0))))))) :: oN cI cJ ad n f σ
theorem nW_fst (cI cJ : ClassId) (a : Nat → Nat) (me n f : Nat) (u : NS) : (nW cI cJ a me n f u).map Prod.fst = [a 0, a 1, a 2, a 3, a 4, a 5, a 6] := rfl
theorem oN_fst (cI cJ : ClassId) (ad : Nat → Nat → Nat) (n f : Nat) (σ : Nat → NS) : (oN cI cJ ad n f σ).map Prod.fst = (List.range n).flatMap (fun x => [ad x 0, ad x 1, ad x 2, ad x 3, ad x 4, ad x 5, ad x 6]) := by
  unfold oN
  rw [List.map_flatMap]
  rfl
theorem oW_fst (cI cJ cO : ClassId) (h hN : Nat) (ad : Nat → Nat → Nat) (n f fa : Nat) (σ : Nat → NS) : (oW cI cJ cO h hN ad n f fa σ).map Prod.fst = h :: hN :: (List.range n).flatMap (fun x => [ad x 0, ad x 1, ad x 2, ad x 3, ad x 4, ad x 5, ad x 6]) := by
  show h :: hN :: (oN cI cJ ad n f σ).map Prod.fst = _
  rw [oN_fst]
section OW
variable {D : va_G} {cl : List vw_C} {A : Nat → Prop} {cI cJ cO : ClassId} {h hN : Nat} {ad : Nat → Nat → Nat} {n f fa : Nat} {σ : Nat → NS} {x : Nat}
theorem oW_mem (hx : x < n) : ∀ q ∈ nW cI cJ (ad x) x n f (σ x), q ∈ oW cI cJ cO h hN ad n f fa σ :=
  fun q hq => List.mem_cons_of_mem _ (List.mem_cons_of_mem _ (List.mem_flatMap.mpr ⟨x, List.mem_range.mpr hx, hq⟩))
theorem oW_P (hx : x < n) {H : Heap} (hP : va_P D cl (oW cI cJ cO h hN ad n f fa σ) H) : va_P D cl (nW cI cJ (ad x) x n f (σ x)) H := gj_mem hP (oW_mem hx)
theorem oW_D (hx : x < n) (hD : va_D A (oW cI cJ cO h hN ad n f fa σ)) : va_D A (nW cI cJ (ad x) x n f (σ x)) := by
  rw [gj_D_iff] at hD ⊢
  refine ⟨?_, fun q hq => hD.2 q (oW_mem hx q hq)⟩
  have h1 := hD.1
  rw [oW_fst] at h1
  unfold List.Nodup at h1 ⊢
  have h2 := (List.pairwise_cons.mp (List.pairwise_cons.mp h1).2).2
  rw [List.pairwise_flatMap] at h2
  exact h2.1 x (List.mem_range.mpr hx)
/-- a cell's address in a node's list is one of seven -/
theorem nW_ad {a : Nat → Nat} {me : Nat} {u : NS} {q : Nat × va_E} (hq : q ∈ nW cI cJ a me n f u) : q.1 ∈ [a 0, a 1, a 2, a 3, a 4, a 5, a 6] := by
  have : q.1 ∈ (nW cI cJ a me n f u).map Prod.fst := List.mem_map.mpr ⟨q, hq, rfl⟩
  exact this
theorem oW_J (hx : x < n) (u : NS) : gj_J D cl A (oW cI cJ cO h hN ad n f fa σ) (nW cI cJ (ad x) x n f (σ x)) (nW cI cJ (ad x) x n f u) (oW cI cJ cO h hN ad n f fa (va_up σ x u)) := by
  refine gj_J_of (oW_mem hx) (oW_D hx) (by rw [oW_fst, oW_fst]) (fun hD q hq => ?_)
  have h1 := (gj_D_iff.mp hD).1
  rw [oW_fst] at h1
  unfold List.Nodup at h1
  obtain ⟨h2, h3⟩ := List.pairwise_cons.mp h1
  obtain ⟨h4, h5⟩ := List.pairwise_cons.mp h3
  rw [List.pairwise_flatMap] at h5
  have hin : ∀ r ∈ nW cI cJ (ad x) x n f (σ x), r.1 ∈ (List.range n).flatMap (fun x => [ad x 0, ad x 1, ad x 2, ad x 3, ad x 4, ad x 5, ad x 6]) := fun r hr => List.mem_flatMap.mpr ⟨x, List.mem_range.mpr hx, nW_ad hr⟩
  rcases List.mem_cons.mp hq with rfl | hq
  · exact Or.inr ⟨List.mem_cons_self, fun r hr e => h2 r.1 (List.mem_cons_of_mem _ (hin r hr)) e.symm⟩
  · rcases List.mem_cons.mp hq with rfl | hq
    · exact Or.inr ⟨List.mem_cons_of_mem _ List.mem_cons_self, fun r hr e => h4 r.1 (hin r hr) e.symm⟩
    · obtain ⟨y, hy, hq⟩ := List.mem_flatMap.mp hq
      by_cases e : y = x
      · subst e
        left
        have : va_up σ y u y = u := if_pos rfl
        rw [this] at hq
        exact hq
      · right
        have e2 : va_up σ x u y = σ y := if_neg e
        rw [e2] at hq
        refine ⟨oW_mem (List.mem_range.mp hy) q hq, fun r hr e3 => ?_⟩
        have h6 := h5.2
        rw [List.pairwise_iff_getElem] at h6
        have hyn := List.mem_range.mp hy
        rcases Nat.lt_or_gt_of_ne e with lt | lt
        · have := h6 y x (by simpa using hyn) (by simpa using hx) lt
          simp only [List.getElem_range] at this
          exact this q.1 (nW_ad hq) r.1 (nW_ad hr) e3.symm
        · have := h6 x y (by simpa using hx) (by simpa using hyn) lt
          simp only [List.getElem_range] at this
          exact this r.1 (nW_ad hr) q.1 (nW_ad hq) e3
end OW
def xN (x : Int32) : Nat := x.toNatClampNeg
def isN (n : Nat) (x : Int32) : Bool := decide (0 ≤ x) && decide (x < nI n)
theorem isN_of {n : Nat} (hn : n ≤ 7) {x : Int32} (h : isN n x = true) : ∃ k, k < n ∧ x = nI k := by
  simp only [isN, Bool.and_eq_true, decide_eq_true_eq] at h
  rcases pk_ix x (n := n) (by omega) with h1 | h1 | h1
  · exact absurd h.1 (Int32.not_le.mpr h1)
  · exact absurd h.2 (Int32.not_lt.mpr h1)
  · exact h1
theorem isN_nI {n k : Nat} (hn : n ≤ 7) (hk : k < n) : isN n (nI k) = true := by
  simp only [isN, Bool.and_eq_true, decide_eq_true_eq]
  exact ⟨nI_pos' (by omega), (nI_ltI (by omega) (by omega)).mpr hk⟩
theorem xN_nI {k : Nat} (hk : k < 2147483648) : xN (nI k) = k := nI_clamp hk
/-- a topic by kind, account and number, where there is one -/
def tpc (n : Nat) (k b q : Int32) : Option Nat :=
  if k = 4 then (if b = 0 ∧ q = 0 then some 140 else none)
  else if k < 0 ∨ 3 < k ∨ isN n b = false ∨ q < 1 ∨ 5 < q then none else some ((xN k * 7 + xN b) * 5 + xN q - 1)
def tpI (o : Option Nat) : Int32 := match o with
  | none => -1
  | some t => nI t
/-- what node y has sent on topic t, and node x would take -/
def ePd (σ : Nat → NS) (t y x : Nat) : Bool := decide (nSa (σ y) t ≠ -1) && (decide (nCo (σ y) ≠ 2) && nWould (σ x) t y (nSa (σ y) t))
def ePm (n : Nat) (σ : Nat → NS) (k : Nat) : Bool := decide (k / 7 % 7 < n) && (decide (k % 7 < n) && ePd σ (k / 49) (k / 7 % 7) (k % 7))
def eFst (n : Nat) (σ : Nat → NS) : Nat := fstB (ePm n σ) 6909 0
def msk (P : Nat → Bool) : Nat → Nat
  | 0 => 0
  | k + 1 => msk P k + (if P k = true then 2 ^ k else 0)
def eTak (n : Nat) (σ : Nat → NS) (t y : Nat) : Nat := msk (ePd σ t y) n
def sumN (F : Nat → Nat) : Nat → Nat
  | 0 => 0
  | k + 1 => sumN F k + F k
def ePend (n : Nat) (σ : Nat → NS) : Nat := sumN (fun t => sumN (fun y => cntB (ePd σ t y) n) n) 141
def ePump (n f : Nat) : Nat → Nat → (Nat → NS) → Nat × (Nat → NS)
  | 0, k, σ => (k, σ)
  | m + 1, k, σ =>
    if eFst n σ = 6909 then (k, σ)
    else ePump n f m (k + 1) (va_up σ (eFst n σ % 7) (nRecv (σ (eFst n σ % 7)) n f (eFst n σ / 49) (eFst n σ / 7 % 7) (nSa (σ (eFst n σ / 7 % 7)) (eFst n σ / 49))).2)
def eUp (n : Nat) (σ : Nat → NS) (x : Int32) : Bool := isN n x && decide (nCo (σ (xN x)) = 0)
def eCor (n : Nat) (σ : Nat → NS) (x : Int32) : Bool := isN n x && decide (nCo (σ (xN x)) ≠ 2)
def eState (n : Nat) (σ : Nat → NS) (x : Int32) : Int32 := if isN n x = true then nI (nCo (σ (xN x))) else -1
end
section
/-! Decode rows, laid by wip/gen/names.py -/
theorem d_E_init_0 : decode b_E_init 0 = .ok (.aload_n 0, 1) := by decide +kernel
theorem d_E_init_1 : decode b_E_init 1 = .ok (.invokespecial 3, 3) := by decide +kernel
theorem d_E_init_4 : decode b_E_init 4 = .ok (.aload_n 0, 1) := by decide +kernel
theorem d_E_init_5 : decode b_E_init 5 = .ok (.iconst 4, 1) := by decide +kernel
theorem d_E_init_6 : decode b_E_init 6 = .ok (.bipush 7, 2) := by decide +kernel
theorem d_E_init_8 : decode b_E_init 8 = .ok (.iload_n 1, 1) := by decide +kernel
theorem d_E_init_9 : decode b_E_init 9 = .ok (.invokestatic 9, 3) := by decide +kernel
theorem d_E_init_12 : decode b_E_init 12 = .ok (.invokestatic 15, 3) := by decide +kernel
theorem d_E_init_15 : decode b_E_init 15 = .ok (.putfield 18, 3) := by decide +kernel
theorem d_E_init_18 : decode b_E_init 18 = .ok (.aload_n 0, 1) := by decide +kernel
theorem d_E_init_19 : decode b_E_init 19 = .ok (.aload_n 0, 1) := by decide +kernel
theorem d_E_init_20 : decode b_E_init 20 = .ok (.getfield 18, 3) := by decide +kernel
theorem d_E_init_23 : decode b_E_init 23 = .ok (.iconst 1, 1) := by decide +kernel
theorem d_E_init_24 : decode b_E_init 24 = .ok (.isub, 1) := by decide +kernel
theorem d_E_init_25 : decode b_E_init 25 = .ok (.iconst 3, 1) := by decide +kernel
theorem d_E_init_26 : decode b_E_init 26 = .ok (.idiv, 1) := by decide +kernel
theorem d_E_init_27 : decode b_E_init 27 = .ok (.putfield 22, 3) := by decide +kernel
theorem d_E_init_30 : decode b_E_init 30 = .ok (.aload_n 0, 1) := by decide +kernel
theorem d_E_init_31 : decode b_E_init 31 = .ok (.aload_n 0, 1) := by decide +kernel
theorem d_E_init_32 : decode b_E_init 32 = .ok (.getfield 18, 3) := by decide +kernel
theorem d_E_init_35 : decode b_E_init 35 = .ok (.anewarray 25, 3) := by decide +kernel
theorem d_E_init_38 : decode b_E_init 38 = .ok (.putfield 27, 3) := by decide +kernel
theorem d_E_init_41 : decode b_E_init 41 = .ok (.iconst 0, 1) := by decide +kernel
theorem d_E_init_42 : decode b_E_init 42 = .ok (.sipush 1000, 3) := by decide +kernel
theorem d_E_init_45 : decode b_E_init 45 = .ok (.iload_n 2, 1) := by decide +kernel
theorem d_E_init_46 : decode b_E_init 46 = .ok (.invokestatic 9, 3) := by decide +kernel
theorem d_E_init_49 : decode b_E_init 49 = .ok (.invokestatic 15, 3) := by decide +kernel
theorem d_E_init_52 : decode b_E_init 52 = .ok (.i2l, 1) := by decide +kernel
theorem d_E_init_53 : decode b_E_init 53 = .ok (.lstore_n 3, 1) := by decide +kernel
theorem d_E_init_54 : decode b_E_init 54 = .ok (.iconst 0, 1) := by decide +kernel
theorem d_E_init_55 : decode b_E_init 55 = .ok (.istore 5, 2) := by decide +kernel
theorem d_E_init_57 : decode b_E_init 57 = .ok (.iload 5, 2) := by decide +kernel
theorem d_E_init_59 : decode b_E_init 59 = .ok (.aload_n 0, 1) := by decide +kernel
theorem d_E_init_60 : decode b_E_init 60 = .ok (.getfield 18, 3) := by decide +kernel
theorem d_E_init_63 : decode b_E_init 63 = .ok (.if_icmp .ge 34, 3) := by decide +kernel
theorem d_E_init_66 : decode b_E_init 66 = .ok (.aload_n 0, 1) := by decide +kernel
theorem d_E_init_67 : decode b_E_init 67 = .ok (.getfield 27, 3) := by decide +kernel
theorem d_E_init_70 : decode b_E_init 70 = .ok (.iload 5, 2) := by decide +kernel
theorem d_E_init_72 : decode b_E_init 72 = .ok (.new 25, 3) := by decide +kernel
theorem d_E_init_75 : decode b_E_init 75 = .ok (.dup, 1) := by decide +kernel
theorem d_E_init_76 : decode b_E_init 76 = .ok (.iload 5, 2) := by decide +kernel
theorem d_E_init_78 : decode b_E_init 78 = .ok (.aload_n 0, 1) := by decide +kernel
theorem d_E_init_79 : decode b_E_init 79 = .ok (.getfield 18, 3) := by decide +kernel
theorem d_E_init_82 : decode b_E_init 82 = .ok (.aload_n 0, 1) := by decide +kernel
theorem d_E_init_83 : decode b_E_init 83 = .ok (.getfield 22, 3) := by decide +kernel
theorem d_E_init_86 : decode b_E_init 86 = .ok (.lload_n 3, 1) := by decide +kernel
theorem d_E_init_87 : decode b_E_init 87 = .ok (.invokespecial 31, 3) := by decide +kernel
theorem d_E_init_90 : decode b_E_init 90 = .ok (.aastore, 1) := by decide +kernel
theorem d_E_init_91 : decode b_E_init 91 = .ok (.iinc 5 1, 3) := by decide +kernel
theorem d_E_init_94 : decode b_E_init 94 = .ok (.goto (-37), 3) := by decide +kernel
theorem d_E_init_97 : decode b_E_init 97 = .ok (.return_, 1) := by decide +kernel
theorem d_E_submit_0 : decode b_E_submit 0 = .ok (.aload_n 0, 1) := by decide +kernel
theorem d_E_submit_1 : decode b_E_submit 1 = .ok (.iload_n 1, 1) := by decide +kernel
theorem d_E_submit_2 : decode b_E_submit 2 = .ok (.invokevirtual 34, 3) := by decide +kernel
theorem d_E_submit_5 : decode b_E_submit 5 = .ok (.ifCond .eq 28, 3) := by decide +kernel
theorem d_E_submit_8 : decode b_E_submit 8 = .ok (.aload_n 0, 1) := by decide +kernel
theorem d_E_submit_9 : decode b_E_submit 9 = .ok (.iload_n 2, 1) := by decide +kernel
theorem d_E_submit_10 : decode b_E_submit 10 = .ok (.invokevirtual 38, 3) := by decide +kernel
theorem d_E_submit_13 : decode b_E_submit 13 = .ok (.ifCond .eq 20, 3) := by decide +kernel
theorem d_E_submit_16 : decode b_E_submit 16 = .ok (.iload_n 2, 1) := by decide +kernel
theorem d_E_submit_17 : decode b_E_submit 17 = .ok (.iload_n 1, 1) := by decide +kernel
theorem d_E_submit_18 : decode b_E_submit 18 = .ok (.if_icmp .eq 15, 3) := by decide +kernel
theorem d_E_submit_21 : decode b_E_submit 21 = .ok (.iload_n 3, 1) := by decide +kernel
theorem d_E_submit_22 : decode b_E_submit 22 = .ok (.iconst 1, 1) := by decide +kernel
theorem d_E_submit_23 : decode b_E_submit 23 = .ok (.if_icmp .lt 10, 3) := by decide +kernel
theorem d_E_submit_26 : decode b_E_submit 26 = .ok (.iload_n 3, 1) := by decide +kernel
theorem d_E_submit_27 : decode b_E_submit 27 = .ok (.sipush 1023, 3) := by decide +kernel
theorem d_E_submit_30 : decode b_E_submit 30 = .ok (.if_icmp .le 5, 3) := by decide +kernel
theorem d_E_submit_33 : decode b_E_submit 33 = .ok (.iconst (-1), 1) := by decide +kernel
theorem d_E_submit_34 : decode b_E_submit 34 = .ok (.ireturn, 1) := by decide +kernel
theorem d_E_submit_35 : decode b_E_submit 35 = .ok (.aload_n 0, 1) := by decide +kernel
theorem d_E_submit_36 : decode b_E_submit 36 = .ok (.getfield 27, 3) := by decide +kernel
theorem d_E_submit_39 : decode b_E_submit 39 = .ok (.iload_n 1, 1) := by decide +kernel
theorem d_E_submit_40 : decode b_E_submit 40 = .ok (.aaload, 1) := by decide +kernel
theorem d_E_submit_41 : decode b_E_submit 41 = .ok (.iload_n 2, 1) := by decide +kernel
theorem d_E_submit_42 : decode b_E_submit 42 = .ok (.iload_n 3, 1) := by decide +kernel
theorem d_E_submit_43 : decode b_E_submit 43 = .ok (.invokevirtual 41, 3) := by decide +kernel
theorem d_E_submit_46 : decode b_E_submit 46 = .ok (.ireturn, 1) := by decide +kernel
theorem d_E_corrupt_0 : decode b_E_corrupt 0 = .ok (.aload_n 0, 1) := by decide +kernel
theorem d_E_corrupt_1 : decode b_E_corrupt 1 = .ok (.iload_n 1, 1) := by decide +kernel
theorem d_E_corrupt_2 : decode b_E_corrupt 2 = .ok (.invokevirtual 44, 3) := by decide +kernel
theorem d_E_corrupt_5 : decode b_E_corrupt 5 = .ok (.ifCond .eq 14, 3) := by decide +kernel
theorem d_E_corrupt_8 : decode b_E_corrupt 8 = .ok (.aload_n 0, 1) := by decide +kernel
theorem d_E_corrupt_9 : decode b_E_corrupt 9 = .ok (.getfield 47, 3) := by decide +kernel
theorem d_E_corrupt_12 : decode b_E_corrupt 12 = .ok (.aload_n 0, 1) := by decide +kernel
theorem d_E_corrupt_13 : decode b_E_corrupt 13 = .ok (.getfield 22, 3) := by decide +kernel
theorem d_E_corrupt_16 : decode b_E_corrupt 16 = .ok (.if_icmp .lt 5, 3) := by decide +kernel
theorem d_E_corrupt_19 : decode b_E_corrupt 19 = .ok (.iconst 0, 1) := by decide +kernel
theorem d_E_corrupt_20 : decode b_E_corrupt 20 = .ok (.ireturn, 1) := by decide +kernel
theorem d_E_corrupt_21 : decode b_E_corrupt 21 = .ok (.aload_n 0, 1) := by decide +kernel
theorem d_E_corrupt_22 : decode b_E_corrupt 22 = .ok (.getfield 27, 3) := by decide +kernel
theorem d_E_corrupt_25 : decode b_E_corrupt 25 = .ok (.iload_n 1, 1) := by decide +kernel
theorem d_E_corrupt_26 : decode b_E_corrupt 26 = .ok (.aaload, 1) := by decide +kernel
theorem d_E_corrupt_27 : decode b_E_corrupt 27 = .ok (.invokevirtual 50, 3) := by decide +kernel
theorem d_E_corrupt_30 : decode b_E_corrupt 30 = .ok (.aload_n 0, 1) := by decide +kernel
theorem d_E_corrupt_31 : decode b_E_corrupt 31 = .ok (.dup, 1) := by decide +kernel
theorem d_E_corrupt_32 : decode b_E_corrupt 32 = .ok (.getfield 47, 3) := by decide +kernel
theorem d_E_corrupt_35 : decode b_E_corrupt 35 = .ok (.iconst 1, 1) := by decide +kernel
theorem d_E_corrupt_36 : decode b_E_corrupt 36 = .ok (.iadd, 1) := by decide +kernel
theorem d_E_corrupt_37 : decode b_E_corrupt 37 = .ok (.putfield 47, 3) := by decide +kernel
theorem d_E_corrupt_40 : decode b_E_corrupt 40 = .ok (.iconst 1, 1) := by decide +kernel
theorem d_E_corrupt_41 : decode b_E_corrupt 41 = .ok (.ireturn, 1) := by decide +kernel
theorem d_E_forge_0 : decode b_E_forge 0 = .ok (.aload_n 0, 1) := by decide +kernel
theorem d_E_forge_1 : decode b_E_forge 1 = .ok (.iload_n 1, 1) := by decide +kernel
theorem d_E_forge_2 : decode b_E_forge 2 = .ok (.invokevirtual 53, 3) := by decide +kernel
theorem d_E_forge_5 : decode b_E_forge 5 = .ok (.iconst 2, 1) := by decide +kernel
theorem d_E_forge_6 : decode b_E_forge 6 = .ok (.if_icmp .ne 11, 3) := by decide +kernel
theorem d_E_forge_9 : decode b_E_forge 9 = .ok (.aload_n 0, 1) := by decide +kernel
theorem d_E_forge_10 : decode b_E_forge 10 = .ok (.iload_n 2, 1) := by decide +kernel
theorem d_E_forge_11 : decode b_E_forge 11 = .ok (.invokevirtual 34, 3) := by decide +kernel
theorem d_E_forge_14 : decode b_E_forge 14 = .ok (.ifCond .ne 5, 3) := by decide +kernel
theorem d_E_forge_17 : decode b_E_forge 17 = .ok (.iconst (-1), 1) := by decide +kernel
theorem d_E_forge_18 : decode b_E_forge 18 = .ok (.ireturn, 1) := by decide +kernel
theorem d_E_forge_19 : decode b_E_forge 19 = .ok (.aload_n 0, 1) := by decide +kernel
theorem d_E_forge_20 : decode b_E_forge 20 = .ok (.iload_n 3, 1) := by decide +kernel
theorem d_E_forge_21 : decode b_E_forge 21 = .ok (.bipush 7, 2) := by decide +kernel
theorem d_E_forge_23 : decode b_E_forge 23 = .ok (.iand, 1) := by decide +kernel
theorem d_E_forge_24 : decode b_E_forge 24 = .ok (.iload_n 3, 1) := by decide +kernel
theorem d_E_forge_25 : decode b_E_forge 25 = .ok (.iconst 3, 1) := by decide +kernel
theorem d_E_forge_26 : decode b_E_forge 26 = .ok (.ishr, 1) := by decide +kernel
theorem d_E_forge_27 : decode b_E_forge 27 = .ok (.bipush 7, 2) := by decide +kernel
theorem d_E_forge_29 : decode b_E_forge 29 = .ok (.iand, 1) := by decide +kernel
theorem d_E_forge_30 : decode b_E_forge 30 = .ok (.iload_n 3, 1) := by decide +kernel
theorem d_E_forge_31 : decode b_E_forge 31 = .ok (.bipush 6, 2) := by decide +kernel
theorem d_E_forge_33 : decode b_E_forge 33 = .ok (.ishr, 1) := by decide +kernel
theorem d_E_forge_34 : decode b_E_forge 34 = .ok (.invokevirtual 57, 3) := by decide +kernel
theorem d_E_forge_37 : decode b_E_forge 37 = .ok (.istore 6, 2) := by decide +kernel
theorem d_E_forge_39 : decode b_E_forge 39 = .ok (.iload 6, 2) := by decide +kernel
theorem d_E_forge_41 : decode b_E_forge 41 = .ok (.iconst (-1), 1) := by decide +kernel
theorem d_E_forge_42 : decode b_E_forge 42 = .ok (.if_icmp .ne 8, 3) := by decide +kernel
theorem d_E_forge_45 : decode b_E_forge 45 = .ok (.bipush (-3), 2) := by decide +kernel
theorem d_E_forge_47 : decode b_E_forge 47 = .ok (.goto 17, 3) := by decide +kernel
theorem d_E_forge_50 : decode b_E_forge 50 = .ok (.aload_n 0, 1) := by decide +kernel
theorem d_E_forge_51 : decode b_E_forge 51 = .ok (.getfield 27, 3) := by decide +kernel
theorem d_E_forge_54 : decode b_E_forge 54 = .ok (.iload_n 2, 1) := by decide +kernel
theorem d_E_forge_55 : decode b_E_forge 55 = .ok (.aaload, 1) := by decide +kernel
theorem d_E_forge_56 : decode b_E_forge 56 = .ok (.iload 6, 2) := by decide +kernel
theorem d_E_forge_58 : decode b_E_forge 58 = .ok (.iload_n 1, 1) := by decide +kernel
theorem d_E_forge_59 : decode b_E_forge 59 = .ok (.lload 4, 2) := by decide +kernel
theorem d_E_forge_61 : decode b_E_forge 61 = .ok (.invokevirtual 61, 3) := by decide +kernel
theorem d_E_forge_64 : decode b_E_forge 64 = .ok (.ireturn, 1) := by decide +kernel
theorem d_E_carry_0 : decode b_E_carry 0 = .ok (.aload_n 0, 1) := by decide +kernel
theorem d_E_carry_1 : decode b_E_carry 1 = .ok (.iload_n 1, 1) := by decide +kernel
theorem d_E_carry_2 : decode b_E_carry 2 = .ok (.invokevirtual 44, 3) := by decide +kernel
theorem d_E_carry_5 : decode b_E_carry 5 = .ok (.ifCond .eq 11, 3) := by decide +kernel
theorem d_E_carry_8 : decode b_E_carry 8 = .ok (.aload_n 0, 1) := by decide +kernel
theorem d_E_carry_9 : decode b_E_carry 9 = .ok (.iload_n 2, 1) := by decide +kernel
theorem d_E_carry_10 : decode b_E_carry 10 = .ok (.invokevirtual 34, 3) := by decide +kernel
theorem d_E_carry_13 : decode b_E_carry 13 = .ok (.ifCond .ne 5, 3) := by decide +kernel
theorem d_E_carry_16 : decode b_E_carry 16 = .ok (.iconst (-1), 1) := by decide +kernel
theorem d_E_carry_17 : decode b_E_carry 17 = .ok (.ireturn, 1) := by decide +kernel
theorem d_E_carry_18 : decode b_E_carry 18 = .ok (.aload_n 0, 1) := by decide +kernel
theorem d_E_carry_19 : decode b_E_carry 19 = .ok (.iload_n 3, 1) := by decide +kernel
theorem d_E_carry_20 : decode b_E_carry 20 = .ok (.iload 4, 2) := by decide +kernel
theorem d_E_carry_22 : decode b_E_carry 22 = .ok (.iload 5, 2) := by decide +kernel
theorem d_E_carry_24 : decode b_E_carry 24 = .ok (.invokevirtual 57, 3) := by decide +kernel
theorem d_E_carry_27 : decode b_E_carry 27 = .ok (.istore 6, 2) := by decide +kernel
theorem d_E_carry_29 : decode b_E_carry 29 = .ok (.iload 6, 2) := by decide +kernel
theorem d_E_carry_31 : decode b_E_carry 31 = .ok (.iconst (-1), 1) := by decide +kernel
theorem d_E_carry_32 : decode b_E_carry 32 = .ok (.if_icmp .eq 21, 3) := by decide +kernel
theorem d_E_carry_35 : decode b_E_carry 35 = .ok (.aload_n 0, 1) := by decide +kernel
theorem d_E_carry_36 : decode b_E_carry 36 = .ok (.getfield 27, 3) := by decide +kernel
theorem d_E_carry_39 : decode b_E_carry 39 = .ok (.iload_n 1, 1) := by decide +kernel
theorem d_E_carry_40 : decode b_E_carry 40 = .ok (.aaload, 1) := by decide +kernel
theorem d_E_carry_41 : decode b_E_carry 41 = .ok (.iload 6, 2) := by decide +kernel
theorem d_E_carry_43 : decode b_E_carry 43 = .ok (.invokevirtual 65, 3) := by decide +kernel
theorem d_E_carry_46 : decode b_E_carry 46 = .ok (.ldc2_w 69, 3) := by decide +kernel
theorem d_E_carry_49 : decode b_E_carry 49 = .ok (.lcmp, 1) := by decide +kernel
theorem d_E_carry_50 : decode b_E_carry 50 = .ok (.ifCond .ne 6, 3) := by decide +kernel
theorem d_E_carry_53 : decode b_E_carry 53 = .ok (.bipush (-2), 2) := by decide +kernel
theorem d_E_carry_55 : decode b_E_carry 55 = .ok (.ireturn, 1) := by decide +kernel
theorem d_E_carry_56 : decode b_E_carry 56 = .ok (.aload_n 0, 1) := by decide +kernel
theorem d_E_carry_57 : decode b_E_carry 57 = .ok (.getfield 27, 3) := by decide +kernel
theorem d_E_carry_60 : decode b_E_carry 60 = .ok (.iload_n 2, 1) := by decide +kernel
theorem d_E_carry_61 : decode b_E_carry 61 = .ok (.aaload, 1) := by decide +kernel
theorem d_E_carry_62 : decode b_E_carry 62 = .ok (.iload 6, 2) := by decide +kernel
theorem d_E_carry_64 : decode b_E_carry 64 = .ok (.iload_n 1, 1) := by decide +kernel
theorem d_E_carry_65 : decode b_E_carry 65 = .ok (.aload_n 0, 1) := by decide +kernel
theorem d_E_carry_66 : decode b_E_carry 66 = .ok (.getfield 27, 3) := by decide +kernel
theorem d_E_carry_69 : decode b_E_carry 69 = .ok (.iload_n 1, 1) := by decide +kernel
theorem d_E_carry_70 : decode b_E_carry 70 = .ok (.aaload, 1) := by decide +kernel
theorem d_E_carry_71 : decode b_E_carry 71 = .ok (.iload 6, 2) := by decide +kernel
theorem d_E_carry_73 : decode b_E_carry 73 = .ok (.invokevirtual 65, 3) := by decide +kernel
theorem d_E_carry_76 : decode b_E_carry 76 = .ok (.invokevirtual 61, 3) := by decide +kernel
theorem d_E_carry_79 : decode b_E_carry 79 = .ok (.ireturn, 1) := by decide +kernel
theorem d_E_pump_0 : decode b_E_pump 0 = .ok (.iload_n 1, 1) := by decide +kernel
theorem d_E_pump_1 : decode b_E_pump 1 = .ok (.iconst 1, 1) := by decide +kernel
theorem d_E_pump_2 : decode b_E_pump 2 = .ok (.if_icmp .lt 9, 3) := by decide +kernel
theorem d_E_pump_5 : decode b_E_pump 5 = .ok (.iload_n 1, 1) := by decide +kernel
theorem d_E_pump_6 : decode b_E_pump 6 = .ok (.bipush 8, 2) := by decide +kernel
theorem d_E_pump_8 : decode b_E_pump 8 = .ok (.if_icmp .le 5, 3) := by decide +kernel
theorem d_E_pump_11 : decode b_E_pump 11 = .ok (.iconst (-1), 1) := by decide +kernel
theorem d_E_pump_12 : decode b_E_pump 12 = .ok (.ireturn, 1) := by decide +kernel
theorem d_E_pump_13 : decode b_E_pump 13 = .ok (.iconst 0, 1) := by decide +kernel
theorem d_E_pump_14 : decode b_E_pump 14 = .ok (.istore_n 2, 1) := by decide +kernel
theorem d_E_pump_15 : decode b_E_pump 15 = .ok (.iload_n 2, 1) := by decide +kernel
theorem d_E_pump_16 : decode b_E_pump 16 = .ok (.iload_n 1, 1) := by decide +kernel
theorem d_E_pump_17 : decode b_E_pump 17 = .ok (.if_icmp .ge 65, 3) := by decide +kernel
theorem d_E_pump_20 : decode b_E_pump 20 = .ok (.aload_n 0, 1) := by decide +kernel
theorem d_E_pump_21 : decode b_E_pump 21 = .ok (.invokevirtual 71, 3) := by decide +kernel
theorem d_E_pump_24 : decode b_E_pump 24 = .ok (.istore_n 3, 1) := by decide +kernel
theorem d_E_pump_25 : decode b_E_pump 25 = .ok (.iload_n 3, 1) := by decide +kernel
theorem d_E_pump_26 : decode b_E_pump 26 = .ok (.iconst (-1), 1) := by decide +kernel
theorem d_E_pump_27 : decode b_E_pump 27 = .ok (.if_icmp .ne 5, 3) := by decide +kernel
theorem d_E_pump_30 : decode b_E_pump 30 = .ok (.iload_n 2, 1) := by decide +kernel
theorem d_E_pump_31 : decode b_E_pump 31 = .ok (.ireturn, 1) := by decide +kernel
theorem d_E_pump_32 : decode b_E_pump 32 = .ok (.iload_n 3, 1) := by decide +kernel
theorem d_E_pump_33 : decode b_E_pump 33 = .ok (.bipush 49, 2) := by decide +kernel
theorem d_E_pump_35 : decode b_E_pump 35 = .ok (.idiv, 1) := by decide +kernel
theorem d_E_pump_36 : decode b_E_pump 36 = .ok (.istore 4, 2) := by decide +kernel
theorem d_E_pump_38 : decode b_E_pump 38 = .ok (.iload_n 3, 1) := by decide +kernel
theorem d_E_pump_39 : decode b_E_pump 39 = .ok (.bipush 7, 2) := by decide +kernel
theorem d_E_pump_41 : decode b_E_pump 41 = .ok (.idiv, 1) := by decide +kernel
theorem d_E_pump_42 : decode b_E_pump 42 = .ok (.bipush 7, 2) := by decide +kernel
theorem d_E_pump_44 : decode b_E_pump 44 = .ok (.irem, 1) := by decide +kernel
theorem d_E_pump_45 : decode b_E_pump 45 = .ok (.istore 5, 2) := by decide +kernel
theorem d_E_pump_47 : decode b_E_pump 47 = .ok (.aload_n 0, 1) := by decide +kernel
theorem d_E_pump_48 : decode b_E_pump 48 = .ok (.getfield 27, 3) := by decide +kernel
theorem d_E_pump_51 : decode b_E_pump 51 = .ok (.iload_n 3, 1) := by decide +kernel
theorem d_E_pump_52 : decode b_E_pump 52 = .ok (.bipush 7, 2) := by decide +kernel
theorem d_E_pump_54 : decode b_E_pump 54 = .ok (.irem, 1) := by decide +kernel
theorem d_E_pump_55 : decode b_E_pump 55 = .ok (.aaload, 1) := by decide +kernel
theorem d_E_pump_56 : decode b_E_pump 56 = .ok (.iload 4, 2) := by decide +kernel
theorem d_E_pump_58 : decode b_E_pump 58 = .ok (.iload 5, 2) := by decide +kernel
theorem d_E_pump_60 : decode b_E_pump 60 = .ok (.aload_n 0, 1) := by decide +kernel
theorem d_E_pump_61 : decode b_E_pump 61 = .ok (.getfield 27, 3) := by decide +kernel
theorem d_E_pump_64 : decode b_E_pump 64 = .ok (.iload 5, 2) := by decide +kernel
theorem d_E_pump_66 : decode b_E_pump 66 = .ok (.aaload, 1) := by decide +kernel
theorem d_E_pump_67 : decode b_E_pump 67 = .ok (.iload 4, 2) := by decide +kernel
theorem d_E_pump_69 : decode b_E_pump 69 = .ok (.invokevirtual 65, 3) := by decide +kernel
theorem d_E_pump_72 : decode b_E_pump 72 = .ok (.invokevirtual 61, 3) := by decide +kernel
theorem d_E_pump_75 : decode b_E_pump 75 = .ok (.pop, 1) := by decide +kernel
theorem d_E_pump_76 : decode b_E_pump 76 = .ok (.iinc 2 1, 3) := by decide +kernel
theorem d_E_pump_79 : decode b_E_pump 79 = .ok (.goto (-64), 3) := by decide +kernel
theorem d_E_pump_82 : decode b_E_pump 82 = .ok (.iload_n 1, 1) := by decide +kernel
theorem d_E_pump_83 : decode b_E_pump 83 = .ok (.ireturn, 1) := by decide +kernel
theorem d_E_pending_0 : decode b_E_pending 0 = .ok (.iconst 0, 1) := by decide +kernel
theorem d_E_pending_1 : decode b_E_pending 1 = .ok (.istore_n 1, 1) := by decide +kernel
theorem d_E_pending_2 : decode b_E_pending 2 = .ok (.iconst 0, 1) := by decide +kernel
theorem d_E_pending_3 : decode b_E_pending 3 = .ok (.istore_n 2, 1) := by decide +kernel
theorem d_E_pending_4 : decode b_E_pending 4 = .ok (.iload_n 2, 1) := by decide +kernel
theorem d_E_pending_5 : decode b_E_pending 5 = .ok (.sipush 141, 3) := by decide +kernel
theorem d_E_pending_8 : decode b_E_pending 8 = .ok (.if_icmp .ge 37, 3) := by decide +kernel
theorem d_E_pending_11 : decode b_E_pending 11 = .ok (.iconst 0, 1) := by decide +kernel
theorem d_E_pending_12 : decode b_E_pending 12 = .ok (.istore_n 3, 1) := by decide +kernel
theorem d_E_pending_13 : decode b_E_pending 13 = .ok (.iload_n 3, 1) := by decide +kernel
theorem d_E_pending_14 : decode b_E_pending 14 = .ok (.aload_n 0, 1) := by decide +kernel
theorem d_E_pending_15 : decode b_E_pending 15 = .ok (.getfield 18, 3) := by decide +kernel
theorem d_E_pending_18 : decode b_E_pending 18 = .ok (.if_icmp .ge 21, 3) := by decide +kernel
theorem d_E_pending_21 : decode b_E_pending 21 = .ok (.iload_n 1, 1) := by decide +kernel
theorem d_E_pending_22 : decode b_E_pending 22 = .ok (.aload_n 0, 1) := by decide +kernel
theorem d_E_pending_23 : decode b_E_pending 23 = .ok (.iload_n 2, 1) := by decide +kernel
theorem d_E_pending_24 : decode b_E_pending 24 = .ok (.iload_n 3, 1) := by decide +kernel
theorem d_E_pending_25 : decode b_E_pending 25 = .ok (.invokevirtual 75, 3) := by decide +kernel
theorem d_E_pending_28 : decode b_E_pending 28 = .ok (.invokestatic 78, 3) := by decide +kernel
theorem d_E_pending_31 : decode b_E_pending 31 = .ok (.iadd, 1) := by decide +kernel
theorem d_E_pending_32 : decode b_E_pending 32 = .ok (.istore_n 1, 1) := by decide +kernel
theorem d_E_pending_33 : decode b_E_pending 33 = .ok (.iinc 3 1, 3) := by decide +kernel
theorem d_E_pending_36 : decode b_E_pending 36 = .ok (.goto (-23), 3) := by decide +kernel
theorem d_E_pending_39 : decode b_E_pending 39 = .ok (.iinc 2 1, 3) := by decide +kernel
theorem d_E_pending_42 : decode b_E_pending 42 = .ok (.goto (-38), 3) := by decide +kernel
theorem d_E_pending_45 : decode b_E_pending 45 = .ok (.iload_n 1, 1) := by decide +kernel
theorem d_E_pending_46 : decode b_E_pending 46 = .ok (.ireturn, 1) := by decide +kernel
theorem d_E_crash_0 : decode b_E_crash 0 = .ok (.aload_n 0, 1) := by decide +kernel
theorem d_E_crash_1 : decode b_E_crash 1 = .ok (.iload_n 1, 1) := by decide +kernel
theorem d_E_crash_2 : decode b_E_crash 2 = .ok (.invokevirtual 34, 3) := by decide +kernel
theorem d_E_crash_5 : decode b_E_crash 5 = .ok (.ifCond .ne 5, 3) := by decide +kernel
theorem d_E_crash_8 : decode b_E_crash 8 = .ok (.iconst 0, 1) := by decide +kernel
theorem d_E_crash_9 : decode b_E_crash 9 = .ok (.ireturn, 1) := by decide +kernel
theorem d_E_crash_10 : decode b_E_crash 10 = .ok (.aload_n 0, 1) := by decide +kernel
theorem d_E_crash_11 : decode b_E_crash 11 = .ok (.getfield 27, 3) := by decide +kernel
theorem d_E_crash_14 : decode b_E_crash 14 = .ok (.iload_n 1, 1) := by decide +kernel
theorem d_E_crash_15 : decode b_E_crash 15 = .ok (.aaload, 1) := by decide +kernel
theorem d_E_crash_16 : decode b_E_crash 16 = .ok (.invokevirtual 83, 3) := by decide +kernel
theorem d_E_crash_19 : decode b_E_crash 19 = .ok (.iconst 1, 1) := by decide +kernel
theorem d_E_crash_20 : decode b_E_crash 20 = .ok (.ireturn, 1) := by decide +kernel
theorem d_E_restart_0 : decode b_E_restart 0 = .ok (.aload_n 0, 1) := by decide +kernel
theorem d_E_restart_1 : decode b_E_restart 1 = .ok (.iload_n 1, 1) := by decide +kernel
theorem d_E_restart_2 : decode b_E_restart 2 = .ok (.invokevirtual 53, 3) := by decide +kernel
theorem d_E_restart_5 : decode b_E_restart 5 = .ok (.iconst 1, 1) := by decide +kernel
theorem d_E_restart_6 : decode b_E_restart 6 = .ok (.if_icmp .eq 5, 3) := by decide +kernel
theorem d_E_restart_9 : decode b_E_restart 9 = .ok (.iconst 0, 1) := by decide +kernel
theorem d_E_restart_10 : decode b_E_restart 10 = .ok (.ireturn, 1) := by decide +kernel
theorem d_E_restart_11 : decode b_E_restart 11 = .ok (.aload_n 0, 1) := by decide +kernel
theorem d_E_restart_12 : decode b_E_restart 12 = .ok (.getfield 27, 3) := by decide +kernel
theorem d_E_restart_15 : decode b_E_restart 15 = .ok (.iload_n 1, 1) := by decide +kernel
theorem d_E_restart_16 : decode b_E_restart 16 = .ok (.aaload, 1) := by decide +kernel
theorem d_E_restart_17 : decode b_E_restart 17 = .ok (.invokevirtual 86, 3) := by decide +kernel
theorem d_E_restart_20 : decode b_E_restart 20 = .ok (.iconst 1, 1) := by decide +kernel
theorem d_E_restart_21 : decode b_E_restart 21 = .ok (.ireturn, 1) := by decide +kernel
theorem d_E_fuse_0 : decode b_E_fuse 0 = .ok (.aload_n 0, 1) := by decide +kernel
theorem d_E_fuse_1 : decode b_E_fuse 1 = .ok (.iload_n 1, 1) := by decide +kernel
theorem d_E_fuse_2 : decode b_E_fuse 2 = .ok (.invokevirtual 34, 3) := by decide +kernel
theorem d_E_fuse_5 : decode b_E_fuse 5 = .ok (.ifCond .eq 13, 3) := by decide +kernel
theorem d_E_fuse_8 : decode b_E_fuse 8 = .ok (.iload_n 2, 1) := by decide +kernel
theorem d_E_fuse_9 : decode b_E_fuse 9 = .ok (.ifCond .lt 9, 3) := by decide +kernel
theorem d_E_fuse_12 : decode b_E_fuse 12 = .ok (.iload_n 2, 1) := by decide +kernel
theorem d_E_fuse_13 : decode b_E_fuse 13 = .ok (.bipush 9, 2) := by decide +kernel
theorem d_E_fuse_15 : decode b_E_fuse 15 = .ok (.if_icmp .le 5, 3) := by decide +kernel
theorem d_E_fuse_18 : decode b_E_fuse 18 = .ok (.iconst 0, 1) := by decide +kernel
theorem d_E_fuse_19 : decode b_E_fuse 19 = .ok (.ireturn, 1) := by decide +kernel
theorem d_E_fuse_20 : decode b_E_fuse 20 = .ok (.aload_n 0, 1) := by decide +kernel
theorem d_E_fuse_21 : decode b_E_fuse 21 = .ok (.getfield 27, 3) := by decide +kernel
theorem d_E_fuse_24 : decode b_E_fuse 24 = .ok (.iload_n 1, 1) := by decide +kernel
theorem d_E_fuse_25 : decode b_E_fuse 25 = .ok (.aaload, 1) := by decide +kernel
theorem d_E_fuse_26 : decode b_E_fuse 26 = .ok (.iload_n 2, 1) := by decide +kernel
theorem d_E_fuse_27 : decode b_E_fuse 27 = .ok (.invokevirtual 89, 3) := by decide +kernel
theorem d_E_fuse_30 : decode b_E_fuse 30 = .ok (.iconst 1, 1) := by decide +kernel
theorem d_E_fuse_31 : decode b_E_fuse 31 = .ok (.ireturn, 1) := by decide +kernel
theorem d_E_mark_0 : decode b_E_mark 0 = .ok (.aload_n 0, 1) := by decide +kernel
theorem d_E_mark_1 : decode b_E_mark 1 = .ok (.iload_n 1, 1) := by decide +kernel
theorem d_E_mark_2 : decode b_E_mark 2 = .ok (.invokevirtual 34, 3) := by decide +kernel
theorem d_E_mark_5 : decode b_E_mark 5 = .ok (.ifCond .eq 15, 3) := by decide +kernel
theorem d_E_mark_8 : decode b_E_mark 8 = .ok (.aload_n 0, 1) := by decide +kernel
theorem d_E_mark_9 : decode b_E_mark 9 = .ok (.getfield 27, 3) := by decide +kernel
theorem d_E_mark_12 : decode b_E_mark 12 = .ok (.iload_n 1, 1) := by decide +kernel
theorem d_E_mark_13 : decode b_E_mark 13 = .ok (.aaload, 1) := by decide +kernel
theorem d_E_mark_14 : decode b_E_mark 14 = .ok (.invokevirtual 93, 3) := by decide +kernel
theorem d_E_mark_17 : decode b_E_mark 17 = .ok (.goto 4, 3) := by decide +kernel
theorem d_E_mark_20 : decode b_E_mark 20 = .ok (.iconst (-1), 1) := by decide +kernel
theorem d_E_mark_21 : decode b_E_mark 21 = .ok (.ireturn, 1) := by decide +kernel
theorem d_E_sent_0 : decode b_E_sent 0 = .ok (.aload_n 0, 1) := by decide +kernel
theorem d_E_sent_1 : decode b_E_sent 1 = .ok (.iload_n 2, 1) := by decide +kernel
theorem d_E_sent_2 : decode b_E_sent 2 = .ok (.iload_n 3, 1) := by decide +kernel
theorem d_E_sent_3 : decode b_E_sent 3 = .ok (.iload 4, 2) := by decide +kernel
theorem d_E_sent_5 : decode b_E_sent 5 = .ok (.invokevirtual 57, 3) := by decide +kernel
theorem d_E_sent_8 : decode b_E_sent 8 = .ok (.istore 5, 2) := by decide +kernel
theorem d_E_sent_10 : decode b_E_sent 10 = .ok (.aload_n 0, 1) := by decide +kernel
theorem d_E_sent_11 : decode b_E_sent 11 = .ok (.iload_n 1, 1) := by decide +kernel
theorem d_E_sent_12 : decode b_E_sent 12 = .ok (.invokevirtual 44, 3) := by decide +kernel
theorem d_E_sent_15 : decode b_E_sent 15 = .ok (.ifCond .eq 23, 3) := by decide +kernel
theorem d_E_sent_18 : decode b_E_sent 18 = .ok (.iload 5, 2) := by decide +kernel
theorem d_E_sent_20 : decode b_E_sent 20 = .ok (.iconst (-1), 1) := by decide +kernel
theorem d_E_sent_21 : decode b_E_sent 21 = .ok (.if_icmp .eq 17, 3) := by decide +kernel
theorem d_E_sent_24 : decode b_E_sent 24 = .ok (.aload_n 0, 1) := by decide +kernel
theorem d_E_sent_25 : decode b_E_sent 25 = .ok (.getfield 27, 3) := by decide +kernel
theorem d_E_sent_28 : decode b_E_sent 28 = .ok (.iload_n 1, 1) := by decide +kernel
theorem d_E_sent_29 : decode b_E_sent 29 = .ok (.aaload, 1) := by decide +kernel
theorem d_E_sent_30 : decode b_E_sent 30 = .ok (.iload 5, 2) := by decide +kernel
theorem d_E_sent_32 : decode b_E_sent 32 = .ok (.invokevirtual 65, 3) := by decide +kernel
theorem d_E_sent_35 : decode b_E_sent 35 = .ok (.goto 6, 3) := by decide +kernel
theorem d_E_sent_38 : decode b_E_sent 38 = .ok (.ldc2_w 69, 3) := by decide +kernel
theorem d_E_sent_41 : decode b_E_sent 41 = .ok (.lreturn, 1) := by decide +kernel
theorem d_E_heard_0 : decode b_E_heard 0 = .ok (.aload_n 0, 1) := by decide +kernel
theorem d_E_heard_1 : decode b_E_heard 1 = .ok (.iload_n 2, 1) := by decide +kernel
theorem d_E_heard_2 : decode b_E_heard 2 = .ok (.iload_n 3, 1) := by decide +kernel
theorem d_E_heard_3 : decode b_E_heard 3 = .ok (.iload 4, 2) := by decide +kernel
theorem d_E_heard_5 : decode b_E_heard 5 = .ok (.invokevirtual 57, 3) := by decide +kernel
theorem d_E_heard_8 : decode b_E_heard 8 = .ok (.istore 5, 2) := by decide +kernel
theorem d_E_heard_10 : decode b_E_heard 10 = .ok (.aload_n 0, 1) := by decide +kernel
theorem d_E_heard_11 : decode b_E_heard 11 = .ok (.iload_n 1, 1) := by decide +kernel
theorem d_E_heard_12 : decode b_E_heard 12 = .ok (.invokevirtual 44, 3) := by decide +kernel
theorem d_E_heard_15 : decode b_E_heard 15 = .ok (.ifCond .eq 13, 3) := by decide +kernel
theorem d_E_heard_18 : decode b_E_heard 18 = .ok (.iload 5, 2) := by decide +kernel
theorem d_E_heard_20 : decode b_E_heard 20 = .ok (.iconst (-1), 1) := by decide +kernel
theorem d_E_heard_21 : decode b_E_heard 21 = .ok (.if_icmp .eq 7, 3) := by decide +kernel
theorem d_E_heard_24 : decode b_E_heard 24 = .ok (.iload_n 2, 1) := by decide +kernel
theorem d_E_heard_25 : decode b_E_heard 25 = .ok (.ifCond .ne 5, 3) := by decide +kernel
theorem d_E_heard_28 : decode b_E_heard 28 = .ok (.iconst (-1), 1) := by decide +kernel
theorem d_E_heard_29 : decode b_E_heard 29 = .ok (.ireturn, 1) := by decide +kernel
theorem d_E_heard_30 : decode b_E_heard 30 = .ok (.aload_n 0, 1) := by decide +kernel
theorem d_E_heard_31 : decode b_E_heard 31 = .ok (.getfield 27, 3) := by decide +kernel
theorem d_E_heard_34 : decode b_E_heard 34 = .ok (.iload_n 1, 1) := by decide +kernel
theorem d_E_heard_35 : decode b_E_heard 35 = .ok (.aaload, 1) := by decide +kernel
theorem d_E_heard_36 : decode b_E_heard 36 = .ok (.iload 5, 2) := by decide +kernel
theorem d_E_heard_38 : decode b_E_heard 38 = .ok (.invokevirtual 96, 3) := by decide +kernel
theorem d_E_heard_41 : decode b_E_heard 41 = .ok (.ireturn, 1) := by decide +kernel
theorem d_E_accepted_0 : decode b_E_accepted 0 = .ok (.aload_n 0, 1) := by decide +kernel
theorem d_E_accepted_1 : decode b_E_accepted 1 = .ok (.iconst 3, 1) := by decide +kernel
theorem d_E_accepted_2 : decode b_E_accepted 2 = .ok (.iload_n 2, 1) := by decide +kernel
theorem d_E_accepted_3 : decode b_E_accepted 3 = .ok (.iload_n 3, 1) := by decide +kernel
theorem d_E_accepted_4 : decode b_E_accepted 4 = .ok (.invokevirtual 57, 3) := by decide +kernel
theorem d_E_accepted_7 : decode b_E_accepted 7 = .ok (.istore 4, 2) := by decide +kernel
theorem d_E_accepted_9 : decode b_E_accepted 9 = .ok (.aload_n 0, 1) := by decide +kernel
theorem d_E_accepted_10 : decode b_E_accepted 10 = .ok (.iload_n 1, 1) := by decide +kernel
theorem d_E_accepted_11 : decode b_E_accepted 11 = .ok (.invokevirtual 44, 3) := by decide +kernel
theorem d_E_accepted_14 : decode b_E_accepted 14 = .ok (.ifCond .eq 26, 3) := by decide +kernel
theorem d_E_accepted_17 : decode b_E_accepted 17 = .ok (.iload 4, 2) := by decide +kernel
theorem d_E_accepted_19 : decode b_E_accepted 19 = .ok (.iconst (-1), 1) := by decide +kernel
theorem d_E_accepted_20 : decode b_E_accepted 20 = .ok (.if_icmp .eq 20, 3) := by decide +kernel
theorem d_E_accepted_23 : decode b_E_accepted 23 = .ok (.aload_n 0, 1) := by decide +kernel
theorem d_E_accepted_24 : decode b_E_accepted 24 = .ok (.getfield 27, 3) := by decide +kernel
theorem d_E_accepted_27 : decode b_E_accepted 27 = .ok (.iload_n 1, 1) := by decide +kernel
theorem d_E_accepted_28 : decode b_E_accepted 28 = .ok (.aaload, 1) := by decide +kernel
theorem d_E_accepted_29 : decode b_E_accepted 29 = .ok (.iload 4, 2) := by decide +kernel
theorem d_E_accepted_31 : decode b_E_accepted 31 = .ok (.invokestatic 99, 3) := by decide +kernel
theorem d_E_accepted_34 : decode b_E_accepted 34 = .ok (.invokevirtual 104, 3) := by decide +kernel
theorem d_E_accepted_37 : decode b_E_accepted 37 = .ok (.goto 6, 3) := by decide +kernel
theorem d_E_accepted_40 : decode b_E_accepted 40 = .ok (.ldc2_w 69, 3) := by decide +kernel
theorem d_E_accepted_43 : decode b_E_accepted 43 = .ok (.lreturn, 1) := by decide +kernel
theorem d_E_applied_0 : decode b_E_applied 0 = .ok (.aload_n 0, 1) := by decide +kernel
theorem d_E_applied_1 : decode b_E_applied 1 = .ok (.iload_n 1, 1) := by decide +kernel
theorem d_E_applied_2 : decode b_E_applied 2 = .ok (.invokevirtual 44, 3) := by decide +kernel
theorem d_E_applied_5 : decode b_E_applied 5 = .ok (.ifCond .eq 24, 3) := by decide +kernel
theorem d_E_applied_8 : decode b_E_applied 8 = .ok (.aload_n 0, 1) := by decide +kernel
theorem d_E_applied_9 : decode b_E_applied 9 = .ok (.iload_n 2, 1) := by decide +kernel
theorem d_E_applied_10 : decode b_E_applied 10 = .ok (.invokevirtual 38, 3) := by decide +kernel
theorem d_E_applied_13 : decode b_E_applied 13 = .ok (.ifCond .eq 16, 3) := by decide +kernel
theorem d_E_applied_16 : decode b_E_applied 16 = .ok (.aload_n 0, 1) := by decide +kernel
theorem d_E_applied_17 : decode b_E_applied 17 = .ok (.getfield 27, 3) := by decide +kernel
theorem d_E_applied_20 : decode b_E_applied 20 = .ok (.iload_n 1, 1) := by decide +kernel
theorem d_E_applied_21 : decode b_E_applied 21 = .ok (.aaload, 1) := by decide +kernel
theorem d_E_applied_22 : decode b_E_applied 22 = .ok (.iload_n 2, 1) := by decide +kernel
theorem d_E_applied_23 : decode b_E_applied 23 = .ok (.invokevirtual 107, 3) := by decide +kernel
theorem d_E_applied_26 : decode b_E_applied 26 = .ok (.goto 4, 3) := by decide +kernel
theorem d_E_applied_29 : decode b_E_applied 29 = .ok (.iconst (-1), 1) := by decide +kernel
theorem d_E_applied_30 : decode b_E_applied 30 = .ok (.ireturn, 1) := by decide +kernel
theorem d_E_balance_0 : decode b_E_balance 0 = .ok (.aload_n 0, 1) := by decide +kernel
theorem d_E_balance_1 : decode b_E_balance 1 = .ok (.iload_n 1, 1) := by decide +kernel
theorem d_E_balance_2 : decode b_E_balance 2 = .ok (.invokevirtual 44, 3) := by decide +kernel
theorem d_E_balance_5 : decode b_E_balance 5 = .ok (.ifCond .eq 24, 3) := by decide +kernel
theorem d_E_balance_8 : decode b_E_balance 8 = .ok (.aload_n 0, 1) := by decide +kernel
theorem d_E_balance_9 : decode b_E_balance 9 = .ok (.iload_n 2, 1) := by decide +kernel
theorem d_E_balance_10 : decode b_E_balance 10 = .ok (.invokevirtual 38, 3) := by decide +kernel
theorem d_E_balance_13 : decode b_E_balance 13 = .ok (.ifCond .eq 16, 3) := by decide +kernel
theorem d_E_balance_16 : decode b_E_balance 16 = .ok (.aload_n 0, 1) := by decide +kernel
theorem d_E_balance_17 : decode b_E_balance 17 = .ok (.getfield 27, 3) := by decide +kernel
theorem d_E_balance_20 : decode b_E_balance 20 = .ok (.iload_n 1, 1) := by decide +kernel
theorem d_E_balance_21 : decode b_E_balance 21 = .ok (.aaload, 1) := by decide +kernel
theorem d_E_balance_22 : decode b_E_balance 22 = .ok (.iload_n 2, 1) := by decide +kernel
theorem d_E_balance_23 : decode b_E_balance 23 = .ok (.invokevirtual 110, 3) := by decide +kernel
theorem d_E_balance_26 : decode b_E_balance 26 = .ok (.goto 6, 3) := by decide +kernel
theorem d_E_balance_29 : decode b_E_balance 29 = .ok (.ldc2_w 69, 3) := by decide +kernel
theorem d_E_balance_32 : decode b_E_balance 32 = .ok (.lreturn, 1) := by decide +kernel
theorem d_E_freed_0 : decode b_E_freed 0 = .ok (.aload_n 0, 1) := by decide +kernel
theorem d_E_freed_1 : decode b_E_freed 1 = .ok (.iload_n 1, 1) := by decide +kernel
theorem d_E_freed_2 : decode b_E_freed 2 = .ok (.invokevirtual 44, 3) := by decide +kernel
theorem d_E_freed_5 : decode b_E_freed 5 = .ok (.ifCond .eq 24, 3) := by decide +kernel
theorem d_E_freed_8 : decode b_E_freed 8 = .ok (.aload_n 0, 1) := by decide +kernel
theorem d_E_freed_9 : decode b_E_freed 9 = .ok (.iload_n 2, 1) := by decide +kernel
theorem d_E_freed_10 : decode b_E_freed 10 = .ok (.invokevirtual 38, 3) := by decide +kernel
theorem d_E_freed_13 : decode b_E_freed 13 = .ok (.ifCond .eq 16, 3) := by decide +kernel
theorem d_E_freed_16 : decode b_E_freed 16 = .ok (.aload_n 0, 1) := by decide +kernel
theorem d_E_freed_17 : decode b_E_freed 17 = .ok (.getfield 27, 3) := by decide +kernel
theorem d_E_freed_20 : decode b_E_freed 20 = .ok (.iload_n 1, 1) := by decide +kernel
theorem d_E_freed_21 : decode b_E_freed 21 = .ok (.aaload, 1) := by decide +kernel
theorem d_E_freed_22 : decode b_E_freed 22 = .ok (.iload_n 2, 1) := by decide +kernel
theorem d_E_freed_23 : decode b_E_freed 23 = .ok (.invokevirtual 113, 3) := by decide +kernel
theorem d_E_freed_26 : decode b_E_freed 26 = .ok (.goto 4, 3) := by decide +kernel
theorem d_E_freed_29 : decode b_E_freed 29 = .ok (.iconst (-1), 1) := by decide +kernel
theorem d_E_freed_30 : decode b_E_freed 30 = .ok (.ireturn, 1) := by decide +kernel
theorem d_E_kept_0 : decode b_E_kept 0 = .ok (.aload_n 0, 1) := by decide +kernel
theorem d_E_kept_1 : decode b_E_kept 1 = .ok (.iload_n 1, 1) := by decide +kernel
theorem d_E_kept_2 : decode b_E_kept 2 = .ok (.invokevirtual 44, 3) := by decide +kernel
theorem d_E_kept_5 : decode b_E_kept 5 = .ok (.ifCond .eq 15, 3) := by decide +kernel
theorem d_E_kept_8 : decode b_E_kept 8 = .ok (.aload_n 0, 1) := by decide +kernel
theorem d_E_kept_9 : decode b_E_kept 9 = .ok (.getfield 27, 3) := by decide +kernel
theorem d_E_kept_12 : decode b_E_kept 12 = .ok (.iload_n 1, 1) := by decide +kernel
theorem d_E_kept_13 : decode b_E_kept 13 = .ok (.aaload, 1) := by decide +kernel
theorem d_E_kept_14 : decode b_E_kept 14 = .ok (.invokevirtual 116, 3) := by decide +kernel
theorem d_E_kept_17 : decode b_E_kept 17 = .ok (.goto 4, 3) := by decide +kernel
theorem d_E_kept_20 : decode b_E_kept 20 = .ok (.iconst (-1), 1) := by decide +kernel
theorem d_E_kept_21 : decode b_E_kept 21 = .ok (.ireturn, 1) := by decide +kernel
theorem d_E_state_0 : decode b_E_state 0 = .ok (.aload_n 0, 1) := by decide +kernel
theorem d_E_state_1 : decode b_E_state 1 = .ok (.iload_n 1, 1) := by decide +kernel
theorem d_E_state_2 : decode b_E_state 2 = .ok (.invokevirtual 38, 3) := by decide +kernel
theorem d_E_state_5 : decode b_E_state 5 = .ok (.ifCond .eq 15, 3) := by decide +kernel
theorem d_E_state_8 : decode b_E_state 8 = .ok (.aload_n 0, 1) := by decide +kernel
theorem d_E_state_9 : decode b_E_state 9 = .ok (.getfield 27, 3) := by decide +kernel
theorem d_E_state_12 : decode b_E_state 12 = .ok (.iload_n 1, 1) := by decide +kernel
theorem d_E_state_13 : decode b_E_state 13 = .ok (.aaload, 1) := by decide +kernel
theorem d_E_state_14 : decode b_E_state 14 = .ok (.invokevirtual 119, 3) := by decide +kernel
theorem d_E_state_17 : decode b_E_state 17 = .ok (.goto 4, 3) := by decide +kernel
theorem d_E_state_20 : decode b_E_state 20 = .ok (.iconst (-1), 1) := by decide +kernel
theorem d_E_state_21 : decode b_E_state 21 = .ok (.ireturn, 1) := by decide +kernel
theorem d_E_isNode_0 : decode b_E_isNode 0 = .ok (.iload_n 1, 1) := by decide +kernel
theorem d_E_isNode_1 : decode b_E_isNode 1 = .ok (.ifCond .lt 15, 3) := by decide +kernel
theorem d_E_isNode_4 : decode b_E_isNode 4 = .ok (.iload_n 1, 1) := by decide +kernel
theorem d_E_isNode_5 : decode b_E_isNode 5 = .ok (.aload_n 0, 1) := by decide +kernel
theorem d_E_isNode_6 : decode b_E_isNode 6 = .ok (.getfield 18, 3) := by decide +kernel
theorem d_E_isNode_9 : decode b_E_isNode 9 = .ok (.if_icmp .ge 7, 3) := by decide +kernel
theorem d_E_isNode_12 : decode b_E_isNode 12 = .ok (.iconst 1, 1) := by decide +kernel
theorem d_E_isNode_13 : decode b_E_isNode 13 = .ok (.goto 4, 3) := by decide +kernel
theorem d_E_isNode_16 : decode b_E_isNode 16 = .ok (.iconst 0, 1) := by decide +kernel
theorem d_E_isNode_17 : decode b_E_isNode 17 = .ok (.ireturn, 1) := by decide +kernel
theorem d_E_isCorrect_0 : decode b_E_isCorrect 0 = .ok (.aload_n 0, 1) := by decide +kernel
theorem d_E_isCorrect_1 : decode b_E_isCorrect 1 = .ok (.iload_n 1, 1) := by decide +kernel
theorem d_E_isCorrect_2 : decode b_E_isCorrect 2 = .ok (.invokevirtual 38, 3) := by decide +kernel
theorem d_E_isCorrect_5 : decode b_E_isCorrect 5 = .ok (.ifCond .eq 20, 3) := by decide +kernel
theorem d_E_isCorrect_8 : decode b_E_isCorrect 8 = .ok (.aload_n 0, 1) := by decide +kernel
theorem d_E_isCorrect_9 : decode b_E_isCorrect 9 = .ok (.getfield 27, 3) := by decide +kernel
theorem d_E_isCorrect_12 : decode b_E_isCorrect 12 = .ok (.iload_n 1, 1) := by decide +kernel
theorem d_E_isCorrect_13 : decode b_E_isCorrect 13 = .ok (.aaload, 1) := by decide +kernel
theorem d_E_isCorrect_14 : decode b_E_isCorrect 14 = .ok (.invokevirtual 119, 3) := by decide +kernel
theorem d_E_isCorrect_17 : decode b_E_isCorrect 17 = .ok (.iconst 2, 1) := by decide +kernel
theorem d_E_isCorrect_18 : decode b_E_isCorrect 18 = .ok (.if_icmp .eq 7, 3) := by decide +kernel
theorem d_E_isCorrect_21 : decode b_E_isCorrect 21 = .ok (.iconst 1, 1) := by decide +kernel
theorem d_E_isCorrect_22 : decode b_E_isCorrect 22 = .ok (.goto 4, 3) := by decide +kernel
theorem d_E_isCorrect_25 : decode b_E_isCorrect 25 = .ok (.iconst 0, 1) := by decide +kernel
theorem d_E_isCorrect_26 : decode b_E_isCorrect 26 = .ok (.ireturn, 1) := by decide +kernel
theorem d_E_isUp_0 : decode b_E_isUp 0 = .ok (.aload_n 0, 1) := by decide +kernel
theorem d_E_isUp_1 : decode b_E_isUp 1 = .ok (.iload_n 1, 1) := by decide +kernel
theorem d_E_isUp_2 : decode b_E_isUp 2 = .ok (.invokevirtual 38, 3) := by decide +kernel
theorem d_E_isUp_5 : decode b_E_isUp 5 = .ok (.ifCond .eq 19, 3) := by decide +kernel
theorem d_E_isUp_8 : decode b_E_isUp 8 = .ok (.aload_n 0, 1) := by decide +kernel
theorem d_E_isUp_9 : decode b_E_isUp 9 = .ok (.getfield 27, 3) := by decide +kernel
theorem d_E_isUp_12 : decode b_E_isUp 12 = .ok (.iload_n 1, 1) := by decide +kernel
theorem d_E_isUp_13 : decode b_E_isUp 13 = .ok (.aaload, 1) := by decide +kernel
theorem d_E_isUp_14 : decode b_E_isUp 14 = .ok (.invokevirtual 119, 3) := by decide +kernel
theorem d_E_isUp_17 : decode b_E_isUp 17 = .ok (.ifCond .ne 7, 3) := by decide +kernel
theorem d_E_isUp_20 : decode b_E_isUp 20 = .ok (.iconst 1, 1) := by decide +kernel
theorem d_E_isUp_21 : decode b_E_isUp 21 = .ok (.goto 4, 3) := by decide +kernel
theorem d_E_isUp_24 : decode b_E_isUp 24 = .ok (.iconst 0, 1) := by decide +kernel
theorem d_E_isUp_25 : decode b_E_isUp 25 = .ok (.ireturn, 1) := by decide +kernel
theorem d_E_topicOf_0 : decode b_E_topicOf 0 = .ok (.iload_n 1, 1) := by decide +kernel
theorem d_E_topicOf_1 : decode b_E_topicOf 1 = .ok (.iconst 4, 1) := by decide +kernel
theorem d_E_topicOf_2 : decode b_E_topicOf 2 = .ok (.if_icmp .ne 19, 3) := by decide +kernel
theorem d_E_topicOf_5 : decode b_E_topicOf 5 = .ok (.iload_n 2, 1) := by decide +kernel
theorem d_E_topicOf_6 : decode b_E_topicOf 6 = .ok (.ifCond .ne 13, 3) := by decide +kernel
theorem d_E_topicOf_9 : decode b_E_topicOf 9 = .ok (.iload_n 3, 1) := by decide +kernel
theorem d_E_topicOf_10 : decode b_E_topicOf 10 = .ok (.ifCond .ne 9, 3) := by decide +kernel
theorem d_E_topicOf_13 : decode b_E_topicOf 13 = .ok (.sipush 140, 3) := by decide +kernel
theorem d_E_topicOf_16 : decode b_E_topicOf 16 = .ok (.goto 4, 3) := by decide +kernel
theorem d_E_topicOf_19 : decode b_E_topicOf 19 = .ok (.iconst (-1), 1) := by decide +kernel
theorem d_E_topicOf_20 : decode b_E_topicOf 20 = .ok (.ireturn, 1) := by decide +kernel
theorem d_E_topicOf_21 : decode b_E_topicOf 21 = .ok (.iload_n 1, 1) := by decide +kernel
theorem d_E_topicOf_22 : decode b_E_topicOf 22 = .ok (.ifCond .lt 26, 3) := by decide +kernel
theorem d_E_topicOf_25 : decode b_E_topicOf 25 = .ok (.iload_n 1, 1) := by decide +kernel
theorem d_E_topicOf_26 : decode b_E_topicOf 26 = .ok (.iconst 3, 1) := by decide +kernel
theorem d_E_topicOf_27 : decode b_E_topicOf 27 = .ok (.if_icmp .gt 21, 3) := by decide +kernel
theorem d_E_topicOf_30 : decode b_E_topicOf 30 = .ok (.aload_n 0, 1) := by decide +kernel
theorem d_E_topicOf_31 : decode b_E_topicOf 31 = .ok (.iload_n 2, 1) := by decide +kernel
theorem d_E_topicOf_32 : decode b_E_topicOf 32 = .ok (.invokevirtual 38, 3) := by decide +kernel
theorem d_E_topicOf_35 : decode b_E_topicOf 35 = .ok (.ifCond .eq 13, 3) := by decide +kernel
theorem d_E_topicOf_38 : decode b_E_topicOf 38 = .ok (.iload_n 3, 1) := by decide +kernel
theorem d_E_topicOf_39 : decode b_E_topicOf 39 = .ok (.iconst 1, 1) := by decide +kernel
theorem d_E_topicOf_40 : decode b_E_topicOf 40 = .ok (.if_icmp .lt 8, 3) := by decide +kernel
theorem d_E_topicOf_43 : decode b_E_topicOf 43 = .ok (.iload_n 3, 1) := by decide +kernel
theorem d_E_topicOf_44 : decode b_E_topicOf 44 = .ok (.iconst 5, 1) := by decide +kernel
theorem d_E_topicOf_45 : decode b_E_topicOf 45 = .ok (.if_icmp .le 5, 3) := by decide +kernel
theorem d_E_topicOf_48 : decode b_E_topicOf 48 = .ok (.iconst (-1), 1) := by decide +kernel
theorem d_E_topicOf_49 : decode b_E_topicOf 49 = .ok (.ireturn, 1) := by decide +kernel
theorem d_E_topicOf_50 : decode b_E_topicOf 50 = .ok (.iload_n 1, 1) := by decide +kernel
theorem d_E_topicOf_51 : decode b_E_topicOf 51 = .ok (.iload_n 2, 1) := by decide +kernel
theorem d_E_topicOf_52 : decode b_E_topicOf 52 = .ok (.iload_n 3, 1) := by decide +kernel
theorem d_E_topicOf_53 : decode b_E_topicOf 53 = .ok (.invokestatic 122, 3) := by decide +kernel
theorem d_E_topicOf_56 : decode b_E_topicOf 56 = .ok (.ireturn, 1) := by decide +kernel
theorem d_E_firstPending_0 : decode b_E_firstPending 0 = .ok (.iconst 0, 1) := by decide +kernel
theorem d_E_firstPending_1 : decode b_E_firstPending 1 = .ok (.istore_n 1, 1) := by decide +kernel
theorem d_E_firstPending_2 : decode b_E_firstPending 2 = .ok (.iload_n 1, 1) := by decide +kernel
theorem d_E_firstPending_3 : decode b_E_firstPending 3 = .ok (.sipush 141, 3) := by decide +kernel
theorem d_E_firstPending_6 : decode b_E_firstPending 6 = .ok (.if_icmp .ge 77, 3) := by decide +kernel
theorem d_E_firstPending_9 : decode b_E_firstPending 9 = .ok (.iconst 0, 1) := by decide +kernel
theorem d_E_firstPending_10 : decode b_E_firstPending 10 = .ok (.istore_n 2, 1) := by decide +kernel
theorem d_E_firstPending_11 : decode b_E_firstPending 11 = .ok (.iload_n 2, 1) := by decide +kernel
theorem d_E_firstPending_12 : decode b_E_firstPending 12 = .ok (.aload_n 0, 1) := by decide +kernel
theorem d_E_firstPending_13 : decode b_E_firstPending 13 = .ok (.getfield 18, 3) := by decide +kernel
theorem d_E_firstPending_16 : decode b_E_firstPending 16 = .ok (.if_icmp .ge 61, 3) := by decide +kernel
theorem d_E_firstPending_19 : decode b_E_firstPending 19 = .ok (.aload_n 0, 1) := by decide +kernel
theorem d_E_firstPending_20 : decode b_E_firstPending 20 = .ok (.iload_n 1, 1) := by decide +kernel
theorem d_E_firstPending_21 : decode b_E_firstPending 21 = .ok (.iload_n 2, 1) := by decide +kernel
theorem d_E_firstPending_22 : decode b_E_firstPending 22 = .ok (.invokevirtual 75, 3) := by decide +kernel
theorem d_E_firstPending_25 : decode b_E_firstPending 25 = .ok (.istore_n 3, 1) := by decide +kernel
theorem d_E_firstPending_26 : decode b_E_firstPending 26 = .ok (.iconst 0, 1) := by decide +kernel
theorem d_E_firstPending_27 : decode b_E_firstPending 27 = .ok (.istore 4, 2) := by decide +kernel
theorem d_E_firstPending_29 : decode b_E_firstPending 29 = .ok (.iload_n 3, 1) := by decide +kernel
theorem d_E_firstPending_30 : decode b_E_firstPending 30 = .ok (.ifCond .eq 41, 3) := by decide +kernel
theorem d_E_firstPending_33 : decode b_E_firstPending 33 = .ok (.iload 4, 2) := by decide +kernel
theorem d_E_firstPending_35 : decode b_E_firstPending 35 = .ok (.aload_n 0, 1) := by decide +kernel
theorem d_E_firstPending_36 : decode b_E_firstPending 36 = .ok (.getfield 18, 3) := by decide +kernel
theorem d_E_firstPending_39 : decode b_E_firstPending 39 = .ok (.if_icmp .ge 32, 3) := by decide +kernel
theorem d_E_firstPending_42 : decode b_E_firstPending 42 = .ok (.iload_n 3, 1) := by decide +kernel
theorem d_E_firstPending_43 : decode b_E_firstPending 43 = .ok (.iload 4, 2) := by decide +kernel
theorem d_E_firstPending_45 : decode b_E_firstPending 45 = .ok (.ishr, 1) := by decide +kernel
theorem d_E_firstPending_46 : decode b_E_firstPending 46 = .ok (.iconst 1, 1) := by decide +kernel
theorem d_E_firstPending_47 : decode b_E_firstPending 47 = .ok (.iand, 1) := by decide +kernel
theorem d_E_firstPending_48 : decode b_E_firstPending 48 = .ok (.iconst 1, 1) := by decide +kernel
theorem d_E_firstPending_49 : decode b_E_firstPending 49 = .ok (.if_icmp .ne 16, 3) := by decide +kernel
theorem d_E_firstPending_52 : decode b_E_firstPending 52 = .ok (.iload_n 1, 1) := by decide +kernel
theorem d_E_firstPending_53 : decode b_E_firstPending 53 = .ok (.bipush 7, 2) := by decide +kernel
theorem d_E_firstPending_55 : decode b_E_firstPending 55 = .ok (.imul, 1) := by decide +kernel
theorem d_E_firstPending_56 : decode b_E_firstPending 56 = .ok (.iload_n 2, 1) := by decide +kernel
theorem d_E_firstPending_57 : decode b_E_firstPending 57 = .ok (.iadd, 1) := by decide +kernel
theorem d_E_firstPending_58 : decode b_E_firstPending 58 = .ok (.bipush 7, 2) := by decide +kernel
theorem d_E_firstPending_60 : decode b_E_firstPending 60 = .ok (.imul, 1) := by decide +kernel
theorem d_E_firstPending_61 : decode b_E_firstPending 61 = .ok (.iload 4, 2) := by decide +kernel
theorem d_E_firstPending_63 : decode b_E_firstPending 63 = .ok (.iadd, 1) := by decide +kernel
theorem d_E_firstPending_64 : decode b_E_firstPending 64 = .ok (.ireturn, 1) := by decide +kernel
theorem d_E_firstPending_65 : decode b_E_firstPending 65 = .ok (.iinc 4 1, 3) := by decide +kernel
theorem d_E_firstPending_68 : decode b_E_firstPending 68 = .ok (.goto (-39), 3) := by decide +kernel
theorem d_E_firstPending_71 : decode b_E_firstPending 71 = .ok (.iinc 2 1, 3) := by decide +kernel
theorem d_E_firstPending_74 : decode b_E_firstPending 74 = .ok (.goto (-63), 3) := by decide +kernel
theorem d_E_firstPending_77 : decode b_E_firstPending 77 = .ok (.iinc 1 1, 3) := by decide +kernel
theorem d_E_firstPending_80 : decode b_E_firstPending 80 = .ok (.goto (-78), 3) := by decide +kernel
theorem d_E_firstPending_83 : decode b_E_firstPending 83 = .ok (.iconst (-1), 1) := by decide +kernel
theorem d_E_firstPending_84 : decode b_E_firstPending 84 = .ok (.ireturn, 1) := by decide +kernel
theorem d_E_takers_0 : decode b_E_takers 0 = .ok (.aload_n 0, 1) := by decide +kernel
theorem d_E_takers_1 : decode b_E_takers 1 = .ok (.getfield 27, 3) := by decide +kernel
theorem d_E_takers_4 : decode b_E_takers 4 = .ok (.iload_n 2, 1) := by decide +kernel
theorem d_E_takers_5 : decode b_E_takers 5 = .ok (.aaload, 1) := by decide +kernel
theorem d_E_takers_6 : decode b_E_takers 6 = .ok (.iload_n 1, 1) := by decide +kernel
theorem d_E_takers_7 : decode b_E_takers 7 = .ok (.invokevirtual 65, 3) := by decide +kernel
theorem d_E_takers_10 : decode b_E_takers 10 = .ok (.lstore_n 3, 1) := by decide +kernel
theorem d_E_takers_11 : decode b_E_takers 11 = .ok (.lload_n 3, 1) := by decide +kernel
theorem d_E_takers_12 : decode b_E_takers 12 = .ok (.ldc2_w 69, 3) := by decide +kernel
theorem d_E_takers_15 : decode b_E_takers 15 = .ok (.lcmp, 1) := by decide +kernel
theorem d_E_takers_16 : decode b_E_takers 16 = .ok (.ifCond .eq 11, 3) := by decide +kernel
theorem d_E_takers_19 : decode b_E_takers 19 = .ok (.aload_n 0, 1) := by decide +kernel
theorem d_E_takers_20 : decode b_E_takers 20 = .ok (.iload_n 2, 1) := by decide +kernel
theorem d_E_takers_21 : decode b_E_takers 21 = .ok (.invokevirtual 44, 3) := by decide +kernel
theorem d_E_takers_24 : decode b_E_takers 24 = .ok (.ifCond .ne 5, 3) := by decide +kernel
theorem d_E_takers_27 : decode b_E_takers 27 = .ok (.iconst 0, 1) := by decide +kernel
theorem d_E_takers_28 : decode b_E_takers 28 = .ok (.ireturn, 1) := by decide +kernel
theorem d_E_takers_29 : decode b_E_takers 29 = .ok (.iconst 0, 1) := by decide +kernel
theorem d_E_takers_30 : decode b_E_takers 30 = .ok (.istore 5, 2) := by decide +kernel
theorem d_E_takers_32 : decode b_E_takers 32 = .ok (.iconst 0, 1) := by decide +kernel
theorem d_E_takers_33 : decode b_E_takers 33 = .ok (.istore 6, 2) := by decide +kernel
theorem d_E_takers_35 : decode b_E_takers 35 = .ok (.iload 6, 2) := by decide +kernel
theorem d_E_takers_37 : decode b_E_takers 37 = .ok (.aload_n 0, 1) := by decide +kernel
theorem d_E_takers_38 : decode b_E_takers 38 = .ok (.getfield 18, 3) := by decide +kernel
theorem d_E_takers_41 : decode b_E_takers 41 = .ok (.if_icmp .ge 34, 3) := by decide +kernel
theorem d_E_takers_44 : decode b_E_takers 44 = .ok (.aload_n 0, 1) := by decide +kernel
theorem d_E_takers_45 : decode b_E_takers 45 = .ok (.getfield 27, 3) := by decide +kernel
theorem d_E_takers_48 : decode b_E_takers 48 = .ok (.iload 6, 2) := by decide +kernel
theorem d_E_takers_50 : decode b_E_takers 50 = .ok (.aaload, 1) := by decide +kernel
theorem d_E_takers_51 : decode b_E_takers 51 = .ok (.iload_n 1, 1) := by decide +kernel
theorem d_E_takers_52 : decode b_E_takers 52 = .ok (.iload_n 2, 1) := by decide +kernel
theorem d_E_takers_53 : decode b_E_takers 53 = .ok (.lload_n 3, 1) := by decide +kernel
theorem d_E_takers_54 : decode b_E_takers 54 = .ok (.invokevirtual 125, 3) := by decide +kernel
theorem d_E_takers_57 : decode b_E_takers 57 = .ok (.ifCond .eq 12, 3) := by decide +kernel
theorem d_E_takers_60 : decode b_E_takers 60 = .ok (.iload 5, 2) := by decide +kernel
theorem d_E_takers_62 : decode b_E_takers 62 = .ok (.iconst 1, 1) := by decide +kernel
theorem d_E_takers_63 : decode b_E_takers 63 = .ok (.iload 6, 2) := by decide +kernel
theorem d_E_takers_65 : decode b_E_takers 65 = .ok (.ishl, 1) := by decide +kernel
theorem d_E_takers_66 : decode b_E_takers 66 = .ok (.ior, 1) := by decide +kernel
theorem d_E_takers_67 : decode b_E_takers 67 = .ok (.istore 5, 2) := by decide +kernel
theorem d_E_takers_69 : decode b_E_takers 69 = .ok (.iinc 6 1, 3) := by decide +kernel
theorem d_E_takers_72 : decode b_E_takers 72 = .ok (.goto (-37), 3) := by decide +kernel
theorem d_E_takers_75 : decode b_E_takers 75 = .ok (.iload 5, 2) := by decide +kernel
theorem d_E_takers_77 : decode b_E_takers 77 = .ok (.ireturn, 1) := by decide +kernel
end
section
/-! What the walks of the outer class rest on -/
theorem isN_f1 {n : Nat} {x : Int32} (h : x < 0) : isN n x = false := by
  simp only [isN, Bool.and_eq_false_iff, decide_eq_false_iff_not]
  exact Or.inl (Int32.not_le.mpr h)
theorem isN_f2 {n : Nat} {x : Int32} (h : nI n ≤ x) : isN n x = false := by
  simp only [isN, Bool.and_eq_false_iff, decide_eq_false_iff_not]
  exact Or.inr (Int32.not_lt.mpr h)
theorem isN_t {n : Nat} {x : Int32} (h1 : ¬ x < 0) (h2 : ¬ nI n ≤ x) : isN n x = true := by
  simp only [isN, Bool.and_eq_true, decide_eq_true_eq]
  exact ⟨Int32.not_lt.mp h1, Int32.not_le.mp h2⟩
theorem eUp_f {n : Nat} {σ : Nat → NS} {x : Int32} (h : isN n x = false) : eUp n σ x = false := by simp [eUp, h]
theorem eCor_f {n : Nat} {σ : Nat → NS} {x : Int32} (h : isN n x = false) : eCor n σ x = false := by simp [eCor, h]
theorem eState_f {n : Nat} {σ : Nat → NS} {x : Int32} (h : isN n x = false) : eState n σ x = -1 := by simp [eState, h]
theorem eUp_N {n : Nat} {σ : Nat → NS} {x : Nat} (hn : n ≤ 7) (hx : x < n) : eUp n σ (nI x) = decide (nCo (σ x) = 0) := by
  rw [eUp, isN_nI hn hx, xN_nI (by omega)]
  rfl
theorem eCor_N {n : Nat} {σ : Nat → NS} {x : Nat} (hn : n ≤ 7) (hx : x < n) : eCor n σ (nI x) = decide (nCo (σ x) ≠ 2) := by
  rw [eCor, isN_nI hn hx, xN_nI (by omega)]
  rfl
theorem eState_N {n : Nat} {σ : Nat → NS} {x : Nat} (hn : n ≤ 7) (hx : x < n) : eState n σ (nI x) = nI (nCo (σ x)) := by
  rw [eState, isN_nI hn hx, xN_nI (by omega)]
  rfl
theorem eUp_of {n : Nat} {σ : Nat → NS} {x : Int32} (hn : n ≤ 7) (h : eUp n σ x = true) : ∃ k, k < n ∧ x = nI k ∧ nCo (σ k) = 0 := by
  have h1 : isN n x = true := by
    cases hb : isN n x with
    | true => rfl
    | false => rw [eUp_f hb] at h; cases h
  obtain ⟨k, hk, rfl⟩ := isN_of hn h1
  rw [eUp_N hn hk] at h
  exact ⟨k, hk, rfl, of_decide_eq_true h⟩
theorem eCor_of {n : Nat} {σ : Nat → NS} {x : Int32} (hn : n ≤ 7) (h : eCor n σ x = true) : ∃ k, k < n ∧ x = nI k ∧ nCo (σ k) ≠ 2 := by
  have h1 : isN n x = true := by
    cases hb : isN n x with
    | true => rfl
    | false => rw [eCor_f hb] at h; cases h
  obtain ⟨k, hk, rfl⟩ := isN_of hn h1
  rw [eCor_N hn hk] at h
  exact ⟨k, hk, rfl, of_decide_eq_true h⟩
theorem eState_of {n : Nat} {σ : Nat → NS} {x : Int32} {c : Nat} (hn : n ≤ 7) (hc : c < 2147483648) (hs : ∀ y, y < n → nCo (σ y) ≤ 2) (h : eState n σ x = nI c) : ∃ k, k < n ∧ x = nI k ∧ nCo (σ k) = c := by
  cases hb : isN n x with
  | false => rw [eState_f hb] at h; exact absurd h.symm (nI_m1 hc)
  | true =>
    obtain ⟨k, hk, rfl⟩ := isN_of hn hb
    rw [eState_N hn hk] at h
    have := hs k hk
    exact ⟨k, hk, rfl, (nI_eq (by omega) hc).mp h⟩
theorem tpc_4t {n : Nat} {k b q : Int32} (h1 : k = 4) (h2 : b = 0) (h3 : q = 0) : tpc n k b q = some 140 := by simp [tpc, h1, h2, h3]
theorem tpc_4a {n : Nat} {k b q : Int32} (h1 : k = 4) (h2 : ¬ b = 0) : tpc n k b q = none := by simp [tpc, h1, h2]
theorem tpc_4b {n : Nat} {k b q : Int32} (h1 : k = 4) (h2 : ¬ q = 0) : tpc n k b q = none := by simp [tpc, h1, h2]
theorem tpc_n {n : Nat} {k b q : Int32} (h1 : ¬ k = 4) (h : k < 0 ∨ 3 < k ∨ isN n b = false ∨ q < 1 ∨ 5 < q) : tpc n k b q = none := by
  rw [tpc, if_neg h1, if_pos h]
theorem tpc_N {n k b q : Nat} (hn : n ≤ 7) (hk : k ≤ 3) (hb : b < n) (h1 : 1 ≤ q) (h5 : q ≤ 5) : tpc n (nI k) (nI b) (nI q) = some ((k * 7 + b) * 5 + q - 1) := by
  have e4 : ¬ nI k = 4 := fun z => by have := (nI_eq (a := k) (b := 4) (by omega) (by omega)).mp z; omega
  rw [tpc, if_neg e4, if_neg, xN_nI (by omega), xN_nI (by omega), xN_nI (by omega)]
  rintro (h | h | h | h | h)
  · exact nI_pos (by omega) h
  · have := (nI_ltI (a := 3) (b := k) (by omega) (by omega)).mp h; omega
  · rw [isN_nI hn hb] at h; cases h
  · have := (nI_ltI (a := q) (b := 1) (by omega) (by omega)).mp h; omega
  · have := (nI_ltI (a := 5) (b := q) (by omega) (by omega)).mp h; omega
/-- where there is a topic, its kind, account and number are small -/
theorem tpc_of {n t : Nat} {k b q : Int32} (hn : n ≤ 7) (h : tpc n k b q = some t) : (t = 140 ∧ k = 4 ∧ b = 0 ∧ q = 0) ∨ ∃ k' b' q', k' ≤ 3 ∧ b' < n ∧ 1 ≤ q' ∧ q' ≤ 5 ∧ k = nI k' ∧ b = nI b' ∧ q = nI q' ∧ t = (k' * 7 + b') * 5 + q' - 1 := by
  by_cases h4 : k = 4
  · left
    rw [tpc, if_pos h4] at h
    split at h
    · rename_i hh
      cases h
      exact ⟨rfl, h4, hh.1, hh.2⟩
    · cases h
  · right
    rw [tpc, if_neg h4] at h
    split at h
    · cases h
    · rename_i hh
      have hk0 : ¬ k < 0 := fun z => hh (Or.inl z)
      have hk3 : ¬ 3 < k := fun z => hh (Or.inr (Or.inl z))
      have hb : isN n b = true := by
        cases hb : isN n b with
        | true => rfl
        | false => exact absurd (Or.inr (Or.inr (Or.inl hb))) hh
      have hq1 : ¬ q < 1 := fun z => hh (Or.inr (Or.inr (Or.inr (Or.inl z))))
      have hq5 : ¬ 5 < q := fun z => hh (Or.inr (Or.inr (Or.inr (Or.inr z))))
      obtain ⟨k', hk', rfl⟩ := nI_of2 (M := 3) (n := 3) (by decide) hk0 (Int32.not_lt.mp hk3)
      obtain ⟨b', hb', rfl⟩ := isN_of hn hb
      have hq0 : ¬ q < 0 := fun z => hq1 (by rw [Int32.lt_iff_toInt_lt] at z ⊢; have e0 : (0 : Int32).toInt = 0 := by decide
                                             have e1 : (1 : Int32).toInt = 1 := by decide
                                             omega)
      obtain ⟨q', hq', rfl⟩ := nI_of2 (M := 5) (n := 5) (by decide) hq0 (Int32.not_lt.mp hq5)
      have hq1' : 1 ≤ q' := by
        rcases Nat.lt_or_ge q' 1 with z | z
        · exact absurd ((nI_ltI (a := q') (b := 1) (by omega) (by omega)).mpr z) hq1
        · exact z
      refine ⟨k', b', q', hk', hb', hq1', hq', rfl, rfl, rfl, ?_⟩
      rw [xN_nI (by omega), xN_nI (by omega), xN_nI (by omega)] at h
      exact (Option.some.inj h).symm
theorem tpc_lt {n t : Nat} {k b q : Int32} (hn : n ≤ 7) (h : tpc n k b q = some t) : t < 141 := by
  rcases tpc_of hn h with ⟨h, -⟩ | ⟨k', b', q', h1, h2, h3, h4, -, -, -, h5⟩
  · omega
  · omega
theorem msk_lt (P : Nat → Bool) : ∀ k, msk P k < 2 ^ k
  | 0 => Nat.zero_lt_one
  | k + 1 => by
    have := msk_lt P k
    simp only [msk]
    rw [Nat.pow_succ]
    split <;> omega
theorem msk_128 (P : Nat → Bool) {n : Nat} (hn : n ≤ 7) : msk P n < 128 := Nat.lt_of_lt_of_le (msk_lt P n) (show 2 ^ n ≤ 2 ^ 7 from Nat.pow_le_pow_right (by decide) hn)
theorem msk_bit (P : Nat → Bool) : ∀ (k i : Nat), msk P k / 2 ^ i % 2 = if i < k ∧ P i = true then 1 else 0
  | 0, i => by simp [msk]
  | k + 1, i => by
    have ih := msk_bit P k i
    have hl := msk_lt P k
    simp only [msk]
    rcases Nat.lt_trichotomy i k with h | h | h
    · have e : (if P k = true then 2 ^ k else 0) = 2 ^ i * (if P k = true then 2 ^ (k - i) else 0) := by
        split
        · rw [← Nat.pow_add, show i + (k - i) = k by omega]
        · rfl
      rw [e, Nat.add_mul_div_left _ _ (Nat.two_pow_pos i)]
      have e2 : (if P k = true then 2 ^ (k - i) else 0) % 2 = 0 := by
        split
        · rw [show k - i = (k - i - 1) + 1 by omega, Nat.pow_succ]; omega
        · rfl
      rw [Nat.add_mod, e2, ih]
      have h3 : (i < k + 1 ∧ P i = true) ↔ (i < k ∧ P i = true) := by constructor <;> intro ⟨a, b⟩ <;> exact ⟨by omega, b⟩
      simp only [h3]
      split <;> rfl
    · subst h
      by_cases hp : P i = true
      · rw [if_pos hp, Nat.add_div_right _ (Nat.two_pow_pos i), Nat.div_eq_of_lt hl, if_pos ⟨by omega, hp⟩]
      · rw [if_neg hp, Nat.add_zero, Nat.div_eq_of_lt hl, if_neg (fun z => hp z.2)]
    · have h2 : msk P k + (if P k = true then 2 ^ k else 0) < 2 ^ i := by
        have := msk_lt P (k + 1)
        simp only [msk] at this
        exact Nat.lt_of_lt_of_le this (Nat.pow_le_pow_right (by decide) (by omega))
      rw [Nat.div_eq_of_lt h2, if_neg (by omega)]
theorem msk_or (P : Nat → Bool) {i : Nat} (hi : i < 7) : nI (msk P i) ||| nI (1 * 2 ^ i) = nI (msk P i + 2 ^ i) := by
  have hl := msk_lt P i
  have h7 : 2 ^ i ≤ 2 ^ 6 := Nat.pow_le_pow_right (by decide) (by omega)
  apply Int32.toBitVec_inj.mp
  apply BitVec.eq_of_toNat_eq
  rw [Int32.toBitVec_or, BitVec.toNat_or, pk_tn (by omega), pk_tn (by omega), pk_tn (by omega), Nat.one_mul, Nat.or_comm, ← Nat.mul_one (2 ^ i), ← Nat.two_pow_add_eq_or_of_lt (by omega)]
  omega
/-- the JDK's way to count the ones of an int -/
def bcI (x : Int32) : Int32 :=
  let a := x - ((x.toUInt32 >>> ((nI 1).toUInt32 &&& Int32.toUInt32 31)).toInt32 &&& 1431655765)
  let b := (a &&& 858993459) + ((a.toUInt32 >>> ((nI 2).toUInt32 &&& Int32.toUInt32 31)).toInt32 &&& 858993459)
  let d := (b + (b.toUInt32 >>> ((nI 4).toUInt32 &&& Int32.toUInt32 31)).toInt32) &&& 252645135
  let e := d + (d.toUInt32 >>> ((nI 8).toUInt32 &&& Int32.toUInt32 31)).toInt32
  let g := e + (e.toUInt32 >>> ((nI 16).toUInt32 &&& Int32.toUInt32 31)).toInt32
  g &&& nI 63
theorem bcI_7 : ∀ k : Fin 128, bcI (nI k.val) = nI (cntB (fun i => decide (k.val / 2 ^ i % 2 = 1)) 7) := by decide +kernel
theorem cntB_le7 {P : Nat → Bool} {n : Nat} (hn : n ≤ 7) : cntB (fun i => decide (msk P n / 2 ^ i % 2 = 1)) 7 = cntB P n := by
  have e : (fun i => decide (msk P n / 2 ^ i % 2 = 1)) = (fun i => decide (i < n) && P i) := by
    funext i
    rw [msk_bit]
    by_cases h1 : i < n <;> by_cases h2 : P i = true <;> simp [h1, h2]
  rw [e]
  have key : ∀ m, n ≤ m → cntB (fun i => decide (i < n) && P i) m = cntB P n := by
    intro m hm
    have low : ∀ k, k ≤ n → cntB (fun i => decide (i < n) && P i) k = cntB P k := by
      intro k
      induction k with
      | zero => intro _; rfl
      | succ k ih => intro hk; simp [cntB, ih (by omega), show k < n by omega]
    induction m with
    | zero => rw [show n = 0 by omega]; rfl
    | succ m ih =>
      by_cases h : n = m + 1
      · rw [h]; exact h ▸ low n (Nat.le_refl _)
      · simp [cntB, ih (by omega), show ¬ m < n by omega]
  exact key 7 hn
theorem bc_tak {P : Nat → Bool} {n : Nat} (hn : n ≤ 7) : bcI (nI (msk P n)) = nI (cntB P n) := by
  have := bcI_7 ⟨msk P n, msk_128 P hn⟩
  rw [this, cntB_le7 hn]
end
section
/-! What the outer class's methods answer and do -/
def eSent (n : Nat) (σ : Nat → NS) (x k b q : Int32) : Int64 := if eCor n σ x = true then (match tpc n k b q with | some t => nSa (σ (xN x)) t | none => -1) else -1
def eHeard (n : Nat) (σ : Nat → NS) (x k b q : Int32) : Int32 := if eCor n σ x = true ∧ ¬ k = 0 then (match tpc n k b q with | some t => nI (nTell (σ (xN x)) t n) | none => -1) else -1
def eAcc (n : Nat) (σ : Nat → NS) (x b q : Int32) : Int64 := if eCor n σ x = true then (match tpc n 3 b q with | some t => nAc (σ (xN x)) (t % 35) | none => -1) else -1
def eApd (n : Nat) (σ : Nat → NS) (x b : Int32) : Int32 := if eCor n σ x = true ∧ isN n b = true then nI (nCn (σ (xN x)) (xN b)) else -1
def eBal (n : Nat) (σ : Nat → NS) (x b : Int32) : Int64 := if eCor n σ x = true ∧ isN n b = true then nBa (σ (xN x)) (xN b) else -1
def eFrd (n : Nat) (σ : Nat → NS) (x b : Int32) : Int32 := if eCor n σ x = true ∧ isN n b = true then nI (nFr (σ (xN x)) (xN b)) else -1
def eKept (n : Nat) (σ : Nat → NS) (x : Int32) : Int32 := if eCor n σ x = true then nI (nKept (σ (xN x)) n) else -1
theorem msk_0 {P : Nat → Bool} (h : ∀ x, P x = false) : ∀ n, msk P n = 0
  | 0 => rfl
  | n + 1 => by simp [msk, msk_0 h n, h n]
theorem msk_t {P : Nat → Bool} {i : Nat} (h : P i = true) : msk P (i + 1) = msk P i + 2 ^ i := by simp [msk, h]
theorem msk_f {P : Nat → Bool} {i : Nat} (h : P i = false) : msk P (i + 1) = msk P i := by simp [msk, h]
theorem eTak_0a {n : Nat} {σ : Nat → NS} {t y : Nat} (h : nSa (σ y) t = -1) : eTak n σ t y = 0 := msk_0 (fun x => by simp [ePd, h]) n
theorem eTak_0b {n : Nat} {σ : Nat → NS} {t y : Nat} (h : nCo (σ y) = 2) : eTak n σ t y = 0 := msk_0 (fun x => by simp [ePd, h]) n
theorem fstB_first {P : Nat → Bool} {N m : Nat} (h0 : ∀ k, k < m → P k = false) (h1 : P m = true) (hm : m < N) : fstB P N 0 = m := by
  have key : ∀ i, i ≤ m → fstB P (N - i) i = fstB P N 0 := by
    intro i
    induction i with
    | zero => intro _; rfl
    | succ i ih => intro hi; rw [← fstB_f (by omega) (h0 i (by omega)), ih (by omega)]
  rw [← key m (Nat.le_refl _), fstB_t hm h1]
theorem fstB_none {P : Nat → Bool} {N : Nat} (h0 : ∀ k, k < N → P k = false) : fstB P N 0 = N := by
  have key : ∀ i, i ≤ N → fstB P (N - i) i = fstB P N 0 := by
    intro i
    induction i with
    | zero => intro _; rfl
    | succ i ih => intro hi; rw [← fstB_f (by omega) (h0 i (by omega)), ih (by omega)]
  rw [← key N (Nat.le_refl _), fstB_e (Nat.le_refl _)]
theorem ePm_at {n : Nat} {σ : Nat → NS} {t y x : Nat} (hy : y < 7) (hx : x < 7) : ePm n σ ((t * 7 + y) * 7 + x) = (decide (y < n) && (decide (x < n) && ePd σ t y x)) := by
  unfold ePm
  rw [show ((t * 7 + y) * 7 + x) / 7 % 7 = y by omega, show ((t * 7 + y) * 7 + x) % 7 = x by omega, show ((t * 7 + y) * 7 + x) / 49 = t by omega]
theorem ePm_y {n : Nat} {σ : Nat → NS} {t : Nat} (h : ∀ k, k < (t * 7 + n) * 7 → ePm n σ k = false) : ∀ k, k < (t + 1) * 49 → ePm n σ k = false := by
  intro k hk
  rcases Nat.lt_or_ge k ((t * 7 + n) * 7) with h1 | h1
  · exact h k h1
  · have : ¬ k / 7 % 7 < n := by omega
    simp [ePm, this]
theorem ePm_x {n : Nat} {σ : Nat → NS} {t y : Nat} (h : ∀ k, k < (t * 7 + y) * 7 + n → ePm n σ k = false) : ∀ k, k < (t * 7 + (y + 1)) * 7 → ePm n σ k = false := by
  intro k hk
  rcases Nat.lt_or_ge k ((t * 7 + y) * 7 + n) with h1 | h1
  · exact h k h1
  · have : ¬ k % 7 < n := by omega
    simp [ePm, this]
theorem ePm_0 {n : Nat} {σ : Nat → NS} {t y x : Nat} (hn : n ≤ 7) (hy : y < 7) (h : ∀ k, k < (t * 7 + y) * 7 + x → ePm n σ k = false) (h0 : eTak n σ t y = 0) : ∀ k, k < (t * 7 + (y + 1)) * 7 → ePm n σ k = false := by
  refine ePm_x (fun k hk => ?_)
  rcases Nat.lt_or_ge k ((t * 7 + y) * 7) with h1 | h1
  · exact h k (by omega)
  · have e : k = (t * 7 + y) * 7 + (k - (t * 7 + y) * 7) := by omega
    rw [e, ePm_at hy (by omega)]
    have hb := msk_bit (ePd σ t y) n (k - (t * 7 + y) * 7)
    have h0' : msk (ePd σ t y) n = 0 := h0
    rw [h0', Nat.zero_div] at hb
    have hlt : k - (t * 7 + y) * 7 < n := by omega
    cases hp : ePd σ t y (k - (t * 7 + y) * 7) with
    | false => simp
    | true => rw [if_pos ⟨hlt, hp⟩] at hb; simp at hb
theorem ePm_s {n : Nat} {σ : Nat → NS} {t y x : Nat} (hy : y < 7) (hx : x < n) (hn : n ≤ 7) (h : ∀ k, k < (t * 7 + y) * 7 + x → ePm n σ k = false) (h0 : eTak n σ t y / 2 ^ x % 2 ≠ 1) : ∀ k, k < (t * 7 + y) * 7 + (x + 1) → ePm n σ k = false := by
  intro k hk
  rcases Nat.lt_or_ge k ((t * 7 + y) * 7 + x) with h1 | h1
  · exact h k h1
  · have e : k = (t * 7 + y) * 7 + x := by omega
    rw [e, ePm_at hy (by omega)]
    have hb := msk_bit (ePd σ t y) n x
    have h0' : ¬ msk (ePd σ t y) n / 2 ^ x % 2 = 1 := h0
    cases hp : ePd σ t y x with
    | false => simp
    | true => rw [if_pos ⟨hx, hp⟩] at hb; exact absurd hb h0'
theorem eFst_at {n : Nat} {σ : Nat → NS} {t y x : Nat} (ht : t < 141) (hy : y < n) (hx : x < n) (hn : n ≤ 7) (h : ∀ k, k < (t * 7 + y) * 7 + x → ePm n σ k = false) (h0 : eTak n σ t y / 2 ^ x % 2 = 1) : eFst n σ = (t * 7 + y) * 7 + x := by
  refine fstB_first h ?_ (by omega)
  rw [ePm_at (by omega) (by omega)]
  have hb := msk_bit (ePd σ t y) n x
  have h0' : msk (ePd σ t y) n / 2 ^ x % 2 = 1 := h0
  rw [h0'] at hb
  by_cases hp : x < n ∧ ePd σ t y x = true
  · simp [hy, hx, hp.2]
  · rw [if_neg hp] at hb; cases hb
theorem and_1 {k : Nat} (h : k < 2 ^ 32) : nI k &&& nI 1 = nI (k % 2) := pk_andN h 1 (by decide)
end
section
/-! Contracts of the outer class, its readers, laid by wip/gen/m_outer.py -/
set_option maxRecDepth 100000 in
set_option maxHeartbeats 4000000 in
theorem c_JI_bitCount (l : Launch) (D : va_G) (tys : List (ClassId × FieldType)) (xx : Int32)  : MRi l y_JI_bitCount (wsM y_JI_bitCount b_JI_bitCount 1 (some .int)) { frames := 0, cells := 0, slots := 0, locals := 0 } D vwK tys ([]) [.int xx] (bcI xx) := by
  refine gj_enterR (own := "java/lang/Integer") (by decide) rfl (Nat.le_of_ble_eq_true rfl) rfl rfl (fun p e s m below meth c cx hr hlk hK => ?_)
  refine gj_iload_n (pc := 0) cx d_JI_bitCount_0 rfl (x := xx) rfl ?_
  refine gj_iload_n (pc := 1) cx d_JI_bitCount_1 rfl (x := xx) rfl ?_
  refine gj_iconst (pc := 2) cx d_JI_bitCount_2 (v := nI 1) (by decide) ?_
  refine gj_iushr (pc := 3) cx d_JI_bitCount_3 rfl ?_
  refine gj_ldcw (pc := 4) cx d_JI_bitCount_4 (v := 1431655765) (in_WT wm_241) ?_
  refine gj_iand (pc := 7) cx d_JI_bitCount_7 ?_
  refine gj_isub (pc := 8) cx d_JI_bitCount_8 ?_
  refine gj_istore_n (pc := 9) cx d_JI_bitCount_9 rfl (lo' := [(0, .int (xx - (((xx.toUInt32 >>> ((nI 1).toUInt32 &&& Int32.toUInt32 31)).toInt32) &&& 1431655765)))]) (by decide) rfl ?_
  refine gj_iload_n (pc := 10) cx d_JI_bitCount_10 rfl (x := xx - (((xx.toUInt32 >>> ((nI 1).toUInt32 &&& Int32.toUInt32 31)).toInt32) &&& 1431655765)) rfl ?_
  refine gj_ldcw (pc := 11) cx d_JI_bitCount_11 (v := 858993459) (in_WT wm_242) ?_
  refine gj_iand (pc := 14) cx d_JI_bitCount_14 ?_
  refine gj_iload_n (pc := 15) cx d_JI_bitCount_15 rfl (x := xx - (((xx.toUInt32 >>> ((nI 1).toUInt32 &&& Int32.toUInt32 31)).toInt32) &&& 1431655765)) rfl ?_
  refine gj_iconst (pc := 16) cx d_JI_bitCount_16 (v := nI 2) (by decide) ?_
  refine gj_iushr (pc := 17) cx d_JI_bitCount_17 rfl ?_
  refine gj_ldcw (pc := 18) cx d_JI_bitCount_18 (v := 858993459) (in_WT wm_242) ?_
  refine gj_iand (pc := 21) cx d_JI_bitCount_21 ?_
  refine gj_iadd (pc := 22) cx d_JI_bitCount_22 ?_
  refine gj_istore_n (pc := 23) cx d_JI_bitCount_23 rfl (lo' := [(0, .int (((xx - (((xx.toUInt32 >>> ((nI 1).toUInt32 &&& Int32.toUInt32 31)).toInt32) &&& 1431655765)) &&& 858993459) + ((((xx - (((xx.toUInt32 >>> ((nI 1).toUInt32 &&& Int32.toUInt32 31)).toInt32) &&& 1431655765)).toUInt32 >>> ((nI 2).toUInt32 &&& Int32.toUInt32 31)).toInt32) &&& 858993459)))]) (by decide) rfl ?_
  refine gj_iload_n (pc := 24) cx d_JI_bitCount_24 rfl (x := ((xx - (((xx.toUInt32 >>> ((nI 1).toUInt32 &&& Int32.toUInt32 31)).toInt32) &&& 1431655765)) &&& 858993459) + ((((xx - (((xx.toUInt32 >>> ((nI 1).toUInt32 &&& Int32.toUInt32 31)).toInt32) &&& 1431655765)).toUInt32 >>> ((nI 2).toUInt32 &&& Int32.toUInt32 31)).toInt32) &&& 858993459)) rfl ?_
  refine gj_iload_n (pc := 25) cx d_JI_bitCount_25 rfl (x := ((xx - (((xx.toUInt32 >>> ((nI 1).toUInt32 &&& Int32.toUInt32 31)).toInt32) &&& 1431655765)) &&& 858993459) + ((((xx - (((xx.toUInt32 >>> ((nI 1).toUInt32 &&& Int32.toUInt32 31)).toInt32) &&& 1431655765)).toUInt32 >>> ((nI 2).toUInt32 &&& Int32.toUInt32 31)).toInt32) &&& 858993459)) rfl ?_
  refine gj_iconst (pc := 26) cx d_JI_bitCount_26 (v := nI 4) (by decide) ?_
  refine gj_iushr (pc := 27) cx d_JI_bitCount_27 rfl ?_
  refine gj_iadd (pc := 28) cx d_JI_bitCount_28 ?_
  refine gj_ldcw (pc := 29) cx d_JI_bitCount_29 (v := 252645135) (in_WT wm_243) ?_
  refine gj_iand (pc := 32) cx d_JI_bitCount_32 ?_
  refine gj_istore_n (pc := 33) cx d_JI_bitCount_33 rfl (lo' := [(0, .int (((((xx - (((xx.toUInt32 >>> ((nI 1).toUInt32 &&& Int32.toUInt32 31)).toInt32) &&& 1431655765)) &&& 858993459) + ((((xx - (((xx.toUInt32 >>> ((nI 1).toUInt32 &&& Int32.toUInt32 31)).toInt32) &&& 1431655765)).toUInt32 >>> ((nI 2).toUInt32 &&& Int32.toUInt32 31)).toInt32) &&& 858993459)) + (((((xx - (((xx.toUInt32 >>> ((nI 1).toUInt32 &&& Int32.toUInt32 31)).toInt32) &&& 1431655765)) &&& 858993459) + ((((xx - (((xx.toUInt32 >>> ((nI 1).toUInt32 &&& Int32.toUInt32 31)).toInt32) &&& 1431655765)).toUInt32 >>> ((nI 2).toUInt32 &&& Int32.toUInt32 31)).toInt32) &&& 858993459)).toUInt32 >>> ((nI 4).toUInt32 &&& Int32.toUInt32 31)).toInt32)) &&& 252645135))]) (by decide) rfl ?_
  refine gj_iload_n (pc := 34) cx d_JI_bitCount_34 rfl (x := ((((xx - (((xx.toUInt32 >>> ((nI 1).toUInt32 &&& Int32.toUInt32 31)).toInt32) &&& 1431655765)) &&& 858993459) + ((((xx - (((xx.toUInt32 >>> ((nI 1).toUInt32 &&& Int32.toUInt32 31)).toInt32) &&& 1431655765)).toUInt32 >>> ((nI 2).toUInt32 &&& Int32.toUInt32 31)).toInt32) &&& 858993459)) + (((((xx - (((xx.toUInt32 >>> ((nI 1).toUInt32 &&& Int32.toUInt32 31)).toInt32) &&& 1431655765)) &&& 858993459) + ((((xx - (((xx.toUInt32 >>> ((nI 1).toUInt32 &&& Int32.toUInt32 31)).toInt32) &&& 1431655765)).toUInt32 >>> ((nI 2).toUInt32 &&& Int32.toUInt32 31)).toInt32) &&& 858993459)).toUInt32 >>> ((nI 4).toUInt32 &&& Int32.toUInt32 31)).toInt32)) &&& 252645135) rfl ?_
  refine gj_iload_n (pc := 35) cx d_JI_bitCount_35 rfl (x := ((((xx - (((xx.toUInt32 >>> ((nI 1).toUInt32 &&& Int32.toUInt32 31)).toInt32) &&& 1431655765)) &&& 858993459) + ((((xx - (((xx.toUInt32 >>> ((nI 1).toUInt32 &&& Int32.toUInt32 31)).toInt32) &&& 1431655765)).toUInt32 >>> ((nI 2).toUInt32 &&& Int32.toUInt32 31)).toInt32) &&& 858993459)) + (((((xx - (((xx.toUInt32 >>> ((nI 1).toUInt32 &&& Int32.toUInt32 31)).toInt32) &&& 1431655765)) &&& 858993459) + ((((xx - (((xx.toUInt32 >>> ((nI 1).toUInt32 &&& Int32.toUInt32 31)).toInt32) &&& 1431655765)).toUInt32 >>> ((nI 2).toUInt32 &&& Int32.toUInt32 31)).toInt32) &&& 858993459)).toUInt32 >>> ((nI 4).toUInt32 &&& Int32.toUInt32 31)).toInt32)) &&& 252645135) rfl ?_
  refine gj_bipush (pc := 36) cx d_JI_bitCount_36 (v := nI 8) (by decide) ?_
  refine gj_iushr (pc := 38) cx d_JI_bitCount_38 rfl ?_
  refine gj_iadd (pc := 39) cx d_JI_bitCount_39 ?_
  refine gj_istore_n (pc := 40) cx d_JI_bitCount_40 rfl (lo' := [(0, .int ((((((xx - (((xx.toUInt32 >>> ((nI 1).toUInt32 &&& Int32.toUInt32 31)).toInt32) &&& 1431655765)) &&& 858993459) + ((((xx - (((xx.toUInt32 >>> ((nI 1).toUInt32 &&& Int32.toUInt32 31)).toInt32) &&& 1431655765)).toUInt32 >>> ((nI 2).toUInt32 &&& Int32.toUInt32 31)).toInt32) &&& 858993459)) + (((((xx - (((xx.toUInt32 >>> ((nI 1).toUInt32 &&& Int32.toUInt32 31)).toInt32) &&& 1431655765)) &&& 858993459) + ((((xx - (((xx.toUInt32 >>> ((nI 1).toUInt32 &&& Int32.toUInt32 31)).toInt32) &&& 1431655765)).toUInt32 >>> ((nI 2).toUInt32 &&& Int32.toUInt32 31)).toInt32) &&& 858993459)).toUInt32 >>> ((nI 4).toUInt32 &&& Int32.toUInt32 31)).toInt32)) &&& 252645135) + (((((((xx - (((xx.toUInt32 >>> ((nI 1).toUInt32 &&& Int32.toUInt32 31)).toInt32) &&& 1431655765)) &&& 858993459) + ((((xx - (((xx.toUInt32 >>> ((nI 1).toUInt32 &&& Int32.toUInt32 31)).toInt32) &&& 1431655765)).toUInt32 >>> ((nI 2).toUInt32 &&& Int32.toUInt32 31)).toInt32) &&& 858993459)) + (((((xx - (((xx.toUInt32 >>> ((nI 1).toUInt32 &&& Int32.toUInt32 31)).toInt32) &&& 1431655765)) &&& 858993459) + ((((xx - (((xx.toUInt32 >>> ((nI 1).toUInt32 &&& Int32.toUInt32 31)).toInt32) &&& 1431655765)).toUInt32 >>> ((nI 2).toUInt32 &&& Int32.toUInt32 31)).toInt32) &&& 858993459)).toUInt32 >>> ((nI 4).toUInt32 &&& Int32.toUInt32 31)).toInt32)) &&& 252645135).toUInt32 >>> ((nI 8).toUInt32 &&& Int32.toUInt32 31)).toInt32)))]) (by decide) rfl ?_
  refine gj_iload_n (pc := 41) cx d_JI_bitCount_41 rfl (x := (((((xx - (((xx.toUInt32 >>> ((nI 1).toUInt32 &&& Int32.toUInt32 31)).toInt32) &&& 1431655765)) &&& 858993459) + ((((xx - (((xx.toUInt32 >>> ((nI 1).toUInt32 &&& Int32.toUInt32 31)).toInt32) &&& 1431655765)).toUInt32 >>> ((nI 2).toUInt32 &&& Int32.toUInt32 31)).toInt32) &&& 858993459)) + (((((xx - (((xx.toUInt32 >>> ((nI 1).toUInt32 &&& Int32.toUInt32 31)).toInt32) &&& 1431655765)) &&& 858993459) + ((((xx - (((xx.toUInt32 >>> ((nI 1).toUInt32 &&& Int32.toUInt32 31)).toInt32) &&& 1431655765)).toUInt32 >>> ((nI 2).toUInt32 &&& Int32.toUInt32 31)).toInt32) &&& 858993459)).toUInt32 >>> ((nI 4).toUInt32 &&& Int32.toUInt32 31)).toInt32)) &&& 252645135) + (((((((xx - (((xx.toUInt32 >>> ((nI 1).toUInt32 &&& Int32.toUInt32 31)).toInt32) &&& 1431655765)) &&& 858993459) + ((((xx - (((xx.toUInt32 >>> ((nI 1).toUInt32 &&& Int32.toUInt32 31)).toInt32) &&& 1431655765)).toUInt32 >>> ((nI 2).toUInt32 &&& Int32.toUInt32 31)).toInt32) &&& 858993459)) + (((((xx - (((xx.toUInt32 >>> ((nI 1).toUInt32 &&& Int32.toUInt32 31)).toInt32) &&& 1431655765)) &&& 858993459) + ((((xx - (((xx.toUInt32 >>> ((nI 1).toUInt32 &&& Int32.toUInt32 31)).toInt32) &&& 1431655765)).toUInt32 >>> ((nI 2).toUInt32 &&& Int32.toUInt32 31)).toInt32) &&& 858993459)).toUInt32 >>> ((nI 4).toUInt32 &&& Int32.toUInt32 31)).toInt32)) &&& 252645135).toUInt32 >>> ((nI 8).toUInt32 &&& Int32.toUInt32 31)).toInt32)) rfl ?_
  refine gj_iload_n (pc := 42) cx d_JI_bitCount_42 rfl (x := (((((xx - (((xx.toUInt32 >>> ((nI 1).toUInt32 &&& Int32.toUInt32 31)).toInt32) &&& 1431655765)) &&& 858993459) + ((((xx - (((xx.toUInt32 >>> ((nI 1).toUInt32 &&& Int32.toUInt32 31)).toInt32) &&& 1431655765)).toUInt32 >>> ((nI 2).toUInt32 &&& Int32.toUInt32 31)).toInt32) &&& 858993459)) + (((((xx - (((xx.toUInt32 >>> ((nI 1).toUInt32 &&& Int32.toUInt32 31)).toInt32) &&& 1431655765)) &&& 858993459) + ((((xx - (((xx.toUInt32 >>> ((nI 1).toUInt32 &&& Int32.toUInt32 31)).toInt32) &&& 1431655765)).toUInt32 >>> ((nI 2).toUInt32 &&& Int32.toUInt32 31)).toInt32) &&& 858993459)).toUInt32 >>> ((nI 4).toUInt32 &&& Int32.toUInt32 31)).toInt32)) &&& 252645135) + (((((((xx - (((xx.toUInt32 >>> ((nI 1).toUInt32 &&& Int32.toUInt32 31)).toInt32) &&& 1431655765)) &&& 858993459) + ((((xx - (((xx.toUInt32 >>> ((nI 1).toUInt32 &&& Int32.toUInt32 31)).toInt32) &&& 1431655765)).toUInt32 >>> ((nI 2).toUInt32 &&& Int32.toUInt32 31)).toInt32) &&& 858993459)) + (((((xx - (((xx.toUInt32 >>> ((nI 1).toUInt32 &&& Int32.toUInt32 31)).toInt32) &&& 1431655765)) &&& 858993459) + ((((xx - (((xx.toUInt32 >>> ((nI 1).toUInt32 &&& Int32.toUInt32 31)).toInt32) &&& 1431655765)).toUInt32 >>> ((nI 2).toUInt32 &&& Int32.toUInt32 31)).toInt32) &&& 858993459)).toUInt32 >>> ((nI 4).toUInt32 &&& Int32.toUInt32 31)).toInt32)) &&& 252645135).toUInt32 >>> ((nI 8).toUInt32 &&& Int32.toUInt32 31)).toInt32)) rfl ?_
  refine gj_bipush (pc := 43) cx d_JI_bitCount_43 (v := nI 16) (by decide) ?_
  refine gj_iushr (pc := 45) cx d_JI_bitCount_45 rfl ?_
  refine gj_iadd (pc := 46) cx d_JI_bitCount_46 ?_
  refine gj_istore_n (pc := 47) cx d_JI_bitCount_47 rfl (lo' := [(0, .int (((((((xx - (((xx.toUInt32 >>> ((nI 1).toUInt32 &&& Int32.toUInt32 31)).toInt32) &&& 1431655765)) &&& 858993459) + ((((xx - (((xx.toUInt32 >>> ((nI 1).toUInt32 &&& Int32.toUInt32 31)).toInt32) &&& 1431655765)).toUInt32 >>> ((nI 2).toUInt32 &&& Int32.toUInt32 31)).toInt32) &&& 858993459)) + (((((xx - (((xx.toUInt32 >>> ((nI 1).toUInt32 &&& Int32.toUInt32 31)).toInt32) &&& 1431655765)) &&& 858993459) + ((((xx - (((xx.toUInt32 >>> ((nI 1).toUInt32 &&& Int32.toUInt32 31)).toInt32) &&& 1431655765)).toUInt32 >>> ((nI 2).toUInt32 &&& Int32.toUInt32 31)).toInt32) &&& 858993459)).toUInt32 >>> ((nI 4).toUInt32 &&& Int32.toUInt32 31)).toInt32)) &&& 252645135) + (((((((xx - (((xx.toUInt32 >>> ((nI 1).toUInt32 &&& Int32.toUInt32 31)).toInt32) &&& 1431655765)) &&& 858993459) + ((((xx - (((xx.toUInt32 >>> ((nI 1).toUInt32 &&& Int32.toUInt32 31)).toInt32) &&& 1431655765)).toUInt32 >>> ((nI 2).toUInt32 &&& Int32.toUInt32 31)).toInt32) &&& 858993459)) + (((((xx - (((xx.toUInt32 >>> ((nI 1).toUInt32 &&& Int32.toUInt32 31)).toInt32) &&& 1431655765)) &&& 858993459) + ((((xx - (((xx.toUInt32 >>> ((nI 1).toUInt32 &&& Int32.toUInt32 31)).toInt32) &&& 1431655765)).toUInt32 >>> ((nI 2).toUInt32 &&& Int32.toUInt32 31)).toInt32) &&& 858993459)).toUInt32 >>> ((nI 4).toUInt32 &&& Int32.toUInt32 31)).toInt32)) &&& 252645135).toUInt32 >>> ((nI 8).toUInt32 &&& Int32.toUInt32 31)).toInt32)) + ((((((((xx - (((xx.toUInt32 >>> ((nI 1).toUInt32 &&& Int32.toUInt32 31)).toInt32) &&& 1431655765)) &&& 858993459) + ((((xx - (((xx.toUInt32 >>> ((nI 1).toUInt32 &&& Int32.toUInt32 31)).toInt32) &&& 1431655765)).toUInt32 >>> ((nI 2).toUInt32 &&& Int32.toUInt32 31)).toInt32) &&& 858993459)) + (((((xx - (((xx.toUInt32 >>> ((nI 1).toUInt32 &&& Int32.toUInt32 31)).toInt32) &&& 1431655765)) &&& 858993459) + ((((xx - (((xx.toUInt32 >>> ((nI 1).toUInt32 &&& Int32.toUInt32 31)).toInt32) &&& 1431655765)).toUInt32 >>> ((nI 2).toUInt32 &&& Int32.toUInt32 31)).toInt32) &&& 858993459)).toUInt32 >>> ((nI 4).toUInt32 &&& Int32.toUInt32 31)).toInt32)) &&& 252645135) + (((((((xx - (((xx.toUInt32 >>> ((nI 1).toUInt32 &&& Int32.toUInt32 31)).toInt32) &&& 1431655765)) &&& 858993459) + ((((xx - (((xx.toUInt32 >>> ((nI 1).toUInt32 &&& Int32.toUInt32 31)).toInt32) &&& 1431655765)).toUInt32 >>> ((nI 2).toUInt32 &&& Int32.toUInt32 31)).toInt32) &&& 858993459)) + (((((xx - (((xx.toUInt32 >>> ((nI 1).toUInt32 &&& Int32.toUInt32 31)).toInt32) &&& 1431655765)) &&& 858993459) + ((((xx - (((xx.toUInt32 >>> ((nI 1).toUInt32 &&& Int32.toUInt32 31)).toInt32) &&& 1431655765)).toUInt32 >>> ((nI 2).toUInt32 &&& Int32.toUInt32 31)).toInt32) &&& 858993459)).toUInt32 >>> ((nI 4).toUInt32 &&& Int32.toUInt32 31)).toInt32)) &&& 252645135).toUInt32 >>> ((nI 8).toUInt32 &&& Int32.toUInt32 31)).toInt32)).toUInt32 >>> ((nI 16).toUInt32 &&& Int32.toUInt32 31)).toInt32)))]) (by decide) rfl ?_
  refine gj_iload_n (pc := 48) cx d_JI_bitCount_48 rfl (x := ((((((xx - (((xx.toUInt32 >>> ((nI 1).toUInt32 &&& Int32.toUInt32 31)).toInt32) &&& 1431655765)) &&& 858993459) + ((((xx - (((xx.toUInt32 >>> ((nI 1).toUInt32 &&& Int32.toUInt32 31)).toInt32) &&& 1431655765)).toUInt32 >>> ((nI 2).toUInt32 &&& Int32.toUInt32 31)).toInt32) &&& 858993459)) + (((((xx - (((xx.toUInt32 >>> ((nI 1).toUInt32 &&& Int32.toUInt32 31)).toInt32) &&& 1431655765)) &&& 858993459) + ((((xx - (((xx.toUInt32 >>> ((nI 1).toUInt32 &&& Int32.toUInt32 31)).toInt32) &&& 1431655765)).toUInt32 >>> ((nI 2).toUInt32 &&& Int32.toUInt32 31)).toInt32) &&& 858993459)).toUInt32 >>> ((nI 4).toUInt32 &&& Int32.toUInt32 31)).toInt32)) &&& 252645135) + (((((((xx - (((xx.toUInt32 >>> ((nI 1).toUInt32 &&& Int32.toUInt32 31)).toInt32) &&& 1431655765)) &&& 858993459) + ((((xx - (((xx.toUInt32 >>> ((nI 1).toUInt32 &&& Int32.toUInt32 31)).toInt32) &&& 1431655765)).toUInt32 >>> ((nI 2).toUInt32 &&& Int32.toUInt32 31)).toInt32) &&& 858993459)) + (((((xx - (((xx.toUInt32 >>> ((nI 1).toUInt32 &&& Int32.toUInt32 31)).toInt32) &&& 1431655765)) &&& 858993459) + ((((xx - (((xx.toUInt32 >>> ((nI 1).toUInt32 &&& Int32.toUInt32 31)).toInt32) &&& 1431655765)).toUInt32 >>> ((nI 2).toUInt32 &&& Int32.toUInt32 31)).toInt32) &&& 858993459)).toUInt32 >>> ((nI 4).toUInt32 &&& Int32.toUInt32 31)).toInt32)) &&& 252645135).toUInt32 >>> ((nI 8).toUInt32 &&& Int32.toUInt32 31)).toInt32)) + ((((((((xx - (((xx.toUInt32 >>> ((nI 1).toUInt32 &&& Int32.toUInt32 31)).toInt32) &&& 1431655765)) &&& 858993459) + ((((xx - (((xx.toUInt32 >>> ((nI 1).toUInt32 &&& Int32.toUInt32 31)).toInt32) &&& 1431655765)).toUInt32 >>> ((nI 2).toUInt32 &&& Int32.toUInt32 31)).toInt32) &&& 858993459)) + (((((xx - (((xx.toUInt32 >>> ((nI 1).toUInt32 &&& Int32.toUInt32 31)).toInt32) &&& 1431655765)) &&& 858993459) + ((((xx - (((xx.toUInt32 >>> ((nI 1).toUInt32 &&& Int32.toUInt32 31)).toInt32) &&& 1431655765)).toUInt32 >>> ((nI 2).toUInt32 &&& Int32.toUInt32 31)).toInt32) &&& 858993459)).toUInt32 >>> ((nI 4).toUInt32 &&& Int32.toUInt32 31)).toInt32)) &&& 252645135) + (((((((xx - (((xx.toUInt32 >>> ((nI 1).toUInt32 &&& Int32.toUInt32 31)).toInt32) &&& 1431655765)) &&& 858993459) + ((((xx - (((xx.toUInt32 >>> ((nI 1).toUInt32 &&& Int32.toUInt32 31)).toInt32) &&& 1431655765)).toUInt32 >>> ((nI 2).toUInt32 &&& Int32.toUInt32 31)).toInt32) &&& 858993459)) + (((((xx - (((xx.toUInt32 >>> ((nI 1).toUInt32 &&& Int32.toUInt32 31)).toInt32) &&& 1431655765)) &&& 858993459) + ((((xx - (((xx.toUInt32 >>> ((nI 1).toUInt32 &&& Int32.toUInt32 31)).toInt32) &&& 1431655765)).toUInt32 >>> ((nI 2).toUInt32 &&& Int32.toUInt32 31)).toInt32) &&& 858993459)).toUInt32 >>> ((nI 4).toUInt32 &&& Int32.toUInt32 31)).toInt32)) &&& 252645135).toUInt32 >>> ((nI 8).toUInt32 &&& Int32.toUInt32 31)).toInt32)).toUInt32 >>> ((nI 16).toUInt32 &&& Int32.toUInt32 31)).toInt32)) rfl ?_
  refine gj_bipush (pc := 49) cx d_JI_bitCount_49 (v := nI 63) (by decide) ?_
  refine gj_iand (pc := 51) cx d_JI_bitCount_51 ?_
  exact gj_iretR (pc := 52) cx hr hlk d_JI_bitCount_52 (rfl)

set_option maxRecDepth 100000 in
set_option maxHeartbeats 4000000 in
theorem c_E_isNode (l : Launch) (D : va_G) (cI cJ cO : ClassId) (h hN : Nat) (ad : Nat → Nat → Nat) (n f fa : Nat) (σ : Nat → NS) (nd : Int32)  : MRi l y_E_isNode (wsM y_E_isNode b_E_isNode 2 (some .boolean)) { frames := 0, cells := 0, slots := 0, locals := 0 } D vwK (tyo cI cJ cO) (oW cI cJ cO h hN ad n f fa σ) [.ref h, .int nd] (bI (isN n nd)) := by
  refine gj_enterR (own := R_E) (by decide) rfl (Nat.le_of_ble_eq_true rfl) rfl rfl (fun p e s m below meth c cx hr hlk hK => ?_)
  have hKn : va_K D vwK (tyl cI cJ) s := hK.sub [0, 1] rfl
  refine gj_iload_n (pc := 0) cx d_E_isNode_0 rfl (x := nd) rfl ?_
  refine gj_if_lt (pc := 1) cx d_E_isNode_1 (tgt := 16) rfl (fun hb1 => ?_) (fun hb1 => ?_)
  · refine gj_iconst (pc := 16) cx d_E_isNode_16 (v := nI 0) (by decide) ?_
    exact gj_zretR (pc := 17) cx hr hlk d_E_isNode_17 rfl (by rw [isN_f1 hb1]; rfl)
  · refine gj_iload_n (pc := 4) cx d_E_isNode_4 rfl (x := nd) rfl ?_
    refine gj_aload_n (pc := 5) cx d_E_isNode_5 rfl (x := h) rfl ?_
    refine gj_get (pc := 6) (ci := 1) (C := R_E) (T := T_E) (N := 4) (v := .int (nI n)) cx hK gj_rP in_E d_E_isNode_6 0 rfl rfl 0 (by decide) (in_WT wm_59) rfl ?_
    refine gj_icmp_ge (pc := 9) cx d_E_isNode_9 (tgt := 16) rfl (fun hb2 => ?_) (fun hb2 => ?_)
    · refine gj_iconst (pc := 16) cx d_E_isNode_16 (v := nI 0) (by decide) ?_
      exact gj_zretR (pc := 17) cx hr hlk d_E_isNode_17 rfl (by rw [isN_f2 hb2]; rfl)
    · refine gj_iconst (pc := 12) cx d_E_isNode_12 (v := nI 1) (by decide) ?_
      refine gj_goto (pc := 13) cx d_E_isNode_13 (tgt := 17) rfl ?_
      exact gj_zretR (pc := 17) cx hr hlk d_E_isNode_17 rfl (by rw [isN_t hb1 hb2]; rfl)

set_option maxRecDepth 100000 in
set_option maxHeartbeats 4000000 in
theorem c_E_isCorrect (l : Launch) (D : va_G) (cI cJ cO : ClassId) (h hN : Nat) (ad : Nat → Nat → Nat) (n f fa : Nat) (σ : Nat → NS) (nd : Int32) (hn : n ≤ 7) (hs : ∀ x, x < n → nInv n (σ x)) : MRi l y_E_isCorrect (wsM y_E_isCorrect b_E_isCorrect 2 (some .boolean)) { frames := 1, cells := 0, slots := 0, locals := 21 } D vwK (tyo cI cJ cO) (oW cI cJ cO h hN ad n f fa σ) [.ref h, .int nd] (bI (eCor n σ nd)) := by
  refine gj_enterR (own := R_E) (by decide) rfl (Nat.le_of_ble_eq_true rfl) rfl rfl (fun p e s m below meth c cx hr hlk hK => ?_)
  have hKn : va_K D vwK (tyl cI cJ) s := hK.sub [0, 1] rfl
  refine gj_aload_n (pc := 0) cx d_E_isCorrect_0 rfl (x := h) rfl ?_
  refine gj_iload_n (pc := 1) cx d_E_isCorrect_1 rfl (x := nd) rfl ?_
  refine gj_callVRi (pc := 2) (As := [.int nd]) (rest := []) (v := bI (isN n nd)) cx hK (c_E_isNode l D cI cJ cO h hN ad n f fa σ nd ) (cwV 1 cx.2.2.2.2 (good_V wm_76 wm_74 wm_75 wm_533 wm_1) rfl rfl rfl (by decide +kernel) ⟨Nat.le_of_ble_eq_true rfl, Nat.le_of_ble_eq_true rfl⟩) gj_rP 0 1 rfl rfl rfl rfl rfl (Nat.le_of_ble_eq_true rfl) d_E_isCorrect_2 ⟨Nat.zero_le _, Nat.zero_le _⟩ ?_
  refine gj_if_eqB (pc := 5) cx d_E_isCorrect_5 (tgt := 25) rfl (fun hb1 => ?_) (fun hb1 => ?_)
  · refine gj_iconst (pc := 25) cx d_E_isCorrect_25 (v := nI 0) (by decide) ?_
    exact gj_zretR (pc := 26) cx hr hlk d_E_isCorrect_26 rfl (by rw [eCor_f hb1]; rfl)
  · obtain ⟨x, hx, rfl⟩ := isN_of hn hb1
    refine gj_aload_n (pc := 8) cx d_E_isCorrect_8 rfl (x := h) rfl ?_
    refine gj_get (pc := 9) (ci := 1) (C := R_E) (T := T_E) (N := 4) (v := .ref hN) cx hK gj_rP in_E d_E_isCorrect_9 0 rfl rfl 2 (by decide) (in_WT wm_61) rfl ?_
    refine gj_iload_n (pc := 12) cx d_E_isCorrect_12 rfl (x := nI x) rfl ?_
    refine gj_aald (pc := 13) (i := x) (x := ad x 0) cx hK gj_rP d_E_isCorrect_13 1 2 rfl rfl (by omega) (by omega) rfl ?_
    refine gj_callVRi (pc := 14) (As := []) (rest := []) (v := nI (nCo (σ x))) cx hKn (c_N_condition l D cI cJ (ad x) x n f (σ x)  ) (cwV 0 cx.2.2.2.2 (good_V wm_80 wm_77 wm_78 wm_79 wm_3) rfl rfl rfl (by decide +kernel) ⟨Nat.le_of_ble_eq_true rfl, Nat.le_of_ble_eq_true rfl⟩) (fun H locs hB => oW_P (by omega) (gj_rP H locs hB)) 0 0 rfl rfl rfl rfl rfl (Nat.le_of_ble_eq_true rfl) d_E_isCorrect_14 ⟨Nat.zero_le _, Nat.zero_le _⟩ ?_
    have hv2 := (hs x (by omega)).1.1
    refine gj_iconst (pc := 17) cx d_E_isCorrect_17 (v := nI 2) (by decide) ?_
    refine gj_icmp_eqN (pc := 18) cx d_E_isCorrect_18 (tgt := 25) rfl (by omega) (by omega) (fun hb3 => ?_) (fun hb3 => ?_)
    · refine gj_iconst (pc := 25) cx d_E_isCorrect_25 (v := nI 0) (by decide) ?_
      exact gj_zretR (pc := 26) cx hr hlk d_E_isCorrect_26 rfl (by rw [eCor_N hn hx]; simp [hb3, bI, nI])
    · refine gj_iconst (pc := 21) cx d_E_isCorrect_21 (v := nI 1) (by decide) ?_
      refine gj_goto (pc := 22) cx d_E_isCorrect_22 (tgt := 26) rfl ?_
      exact gj_zretR (pc := 26) cx hr hlk d_E_isCorrect_26 rfl (by rw [eCor_N hn hx]; simp [hb3, bI, nI])

set_option maxRecDepth 100000 in
set_option maxHeartbeats 4000000 in
theorem c_E_isUp (l : Launch) (D : va_G) (cI cJ cO : ClassId) (h hN : Nat) (ad : Nat → Nat → Nat) (n f fa : Nat) (σ : Nat → NS) (nd : Int32) (hn : n ≤ 7) (hs : ∀ x, x < n → nInv n (σ x)) : MRi l y_E_isUp (wsM y_E_isUp b_E_isUp 2 (some .boolean)) { frames := 1, cells := 0, slots := 0, locals := 21 } D vwK (tyo cI cJ cO) (oW cI cJ cO h hN ad n f fa σ) [.ref h, .int nd] (bI (eUp n σ nd)) := by
  refine gj_enterR (own := R_E) (by decide) rfl (Nat.le_of_ble_eq_true rfl) rfl rfl (fun p e s m below meth c cx hr hlk hK => ?_)
  have hKn : va_K D vwK (tyl cI cJ) s := hK.sub [0, 1] rfl
  refine gj_aload_n (pc := 0) cx d_E_isUp_0 rfl (x := h) rfl ?_
  refine gj_iload_n (pc := 1) cx d_E_isUp_1 rfl (x := nd) rfl ?_
  refine gj_callVRi (pc := 2) (As := [.int nd]) (rest := []) (v := bI (isN n nd)) cx hK (c_E_isNode l D cI cJ cO h hN ad n f fa σ nd ) (cwV 1 cx.2.2.2.2 (good_V wm_76 wm_74 wm_75 wm_533 wm_1) rfl rfl rfl (by decide +kernel) ⟨Nat.le_of_ble_eq_true rfl, Nat.le_of_ble_eq_true rfl⟩) gj_rP 0 1 rfl rfl rfl rfl rfl (Nat.le_of_ble_eq_true rfl) d_E_isUp_2 ⟨Nat.zero_le _, Nat.zero_le _⟩ ?_
  refine gj_if_eqB (pc := 5) cx d_E_isUp_5 (tgt := 24) rfl (fun hb1 => ?_) (fun hb1 => ?_)
  · refine gj_iconst (pc := 24) cx d_E_isUp_24 (v := nI 0) (by decide) ?_
    exact gj_zretR (pc := 25) cx hr hlk d_E_isUp_25 rfl (by rw [eUp_f hb1]; rfl)
  · obtain ⟨x, hx, rfl⟩ := isN_of hn hb1
    refine gj_aload_n (pc := 8) cx d_E_isUp_8 rfl (x := h) rfl ?_
    refine gj_get (pc := 9) (ci := 1) (C := R_E) (T := T_E) (N := 4) (v := .ref hN) cx hK gj_rP in_E d_E_isUp_9 0 rfl rfl 2 (by decide) (in_WT wm_61) rfl ?_
    refine gj_iload_n (pc := 12) cx d_E_isUp_12 rfl (x := nI x) rfl ?_
    refine gj_aald (pc := 13) (i := x) (x := ad x 0) cx hK gj_rP d_E_isUp_13 1 2 rfl rfl (by omega) (by omega) rfl ?_
    refine gj_callVRi (pc := 14) (As := []) (rest := []) (v := nI (nCo (σ x))) cx hKn (c_N_condition l D cI cJ (ad x) x n f (σ x)  ) (cwV 0 cx.2.2.2.2 (good_V wm_80 wm_77 wm_78 wm_79 wm_3) rfl rfl rfl (by decide +kernel) ⟨Nat.le_of_ble_eq_true rfl, Nat.le_of_ble_eq_true rfl⟩) (fun H locs hB => oW_P (by omega) (gj_rP H locs hB)) 0 0 rfl rfl rfl rfl rfl (Nat.le_of_ble_eq_true rfl) d_E_isUp_14 ⟨Nat.zero_le _, Nat.zero_le _⟩ ?_
    have hv2 := (hs x (by omega)).1.1
    refine gj_if_neN (pc := 17) cx d_E_isUp_17 (tgt := 24) rfl (by omega) (fun hb3 => ?_) (fun hb3 => ?_)
    · refine gj_iconst (pc := 24) cx d_E_isUp_24 (v := nI 0) (by decide) ?_
      exact gj_zretR (pc := 25) cx hr hlk d_E_isUp_25 rfl (by rw [eUp_N hn hx]; simp [hb3, bI, nI])
    · refine gj_iconst (pc := 20) cx d_E_isUp_20 (v := nI 1) (by decide) ?_
      refine gj_goto (pc := 21) cx d_E_isUp_21 (tgt := 25) rfl ?_
      exact gj_zretR (pc := 25) cx hr hlk d_E_isUp_25 rfl (by rw [eUp_N hn hx]; simp [hb3, bI, nI])

set_option maxRecDepth 100000 in
set_option maxHeartbeats 4000000 in
theorem c_E_state (l : Launch) (D : va_G) (cI cJ cO : ClassId) (h hN : Nat) (ad : Nat → Nat → Nat) (n f fa : Nat) (σ : Nat → NS) (nd : Int32) (hn : n ≤ 7) (hs : ∀ x, x < n → nInv n (σ x)) : MRi l y_E_state (wsM y_E_state b_E_state 2 (some .int)) { frames := 1, cells := 0, slots := 0, locals := 21 } D vwK (tyo cI cJ cO) (oW cI cJ cO h hN ad n f fa σ) [.ref h, .int nd] (eState n σ nd) := by
  refine gj_enterR (own := R_E) (by decide) rfl (Nat.le_of_ble_eq_true rfl) rfl rfl (fun p e s m below meth c cx hr hlk hK => ?_)
  have hKn : va_K D vwK (tyl cI cJ) s := hK.sub [0, 1] rfl
  refine gj_aload_n (pc := 0) cx d_E_state_0 rfl (x := h) rfl ?_
  refine gj_iload_n (pc := 1) cx d_E_state_1 rfl (x := nd) rfl ?_
  refine gj_callVRi (pc := 2) (As := [.int nd]) (rest := []) (v := bI (isN n nd)) cx hK (c_E_isNode l D cI cJ cO h hN ad n f fa σ nd ) (cwV 1 cx.2.2.2.2 (good_V wm_76 wm_74 wm_75 wm_533 wm_1) rfl rfl rfl (by decide +kernel) ⟨Nat.le_of_ble_eq_true rfl, Nat.le_of_ble_eq_true rfl⟩) gj_rP 0 1 rfl rfl rfl rfl rfl (Nat.le_of_ble_eq_true rfl) d_E_state_2 ⟨Nat.zero_le _, Nat.zero_le _⟩ ?_
  refine gj_if_eqB (pc := 5) cx d_E_state_5 (tgt := 20) rfl (fun hb1 => ?_) (fun hb1 => ?_)
  · refine gj_iconst (pc := 20) cx d_E_state_20 (v := (-1)) (by decide) ?_
    exact gj_iretR (pc := 21) cx hr hlk d_E_state_21 (by rw [eState_f hb1])
  · obtain ⟨x, hx, rfl⟩ := isN_of hn hb1
    refine gj_aload_n (pc := 8) cx d_E_state_8 rfl (x := h) rfl ?_
    refine gj_get (pc := 9) (ci := 1) (C := R_E) (T := T_E) (N := 4) (v := .ref hN) cx hK gj_rP in_E d_E_state_9 0 rfl rfl 2 (by decide) (in_WT wm_61) rfl ?_
    refine gj_iload_n (pc := 12) cx d_E_state_12 rfl (x := nI x) rfl ?_
    refine gj_aald (pc := 13) (i := x) (x := ad x 0) cx hK gj_rP d_E_state_13 1 2 rfl rfl (by omega) (by omega) rfl ?_
    refine gj_callVRi (pc := 14) (As := []) (rest := []) (v := nI (nCo (σ x))) cx hKn (c_N_condition l D cI cJ (ad x) x n f (σ x)  ) (cwV 0 cx.2.2.2.2 (good_V wm_80 wm_77 wm_78 wm_79 wm_3) rfl rfl rfl (by decide +kernel) ⟨Nat.le_of_ble_eq_true rfl, Nat.le_of_ble_eq_true rfl⟩) (fun H locs hB => oW_P (by omega) (gj_rP H locs hB)) 0 0 rfl rfl rfl rfl rfl (Nat.le_of_ble_eq_true rfl) d_E_state_14 ⟨Nat.zero_le _, Nat.zero_le _⟩ ?_
    have hv2 := (hs x (by omega)).1.1
    refine gj_goto (pc := 17) cx d_E_state_17 (tgt := 21) rfl ?_
    exact gj_iretR (pc := 21) cx hr hlk d_E_state_21 (by rw [eState_N hn hx])

set_option maxRecDepth 100000 in
set_option maxHeartbeats 4000000 in
theorem c_E_topicOf (l : Launch) (D : va_G) (cI cJ cO : ClassId) (h hN : Nat) (ad : Nat → Nat → Nat) (n f fa : Nat) (σ : Nat → NS) (kd : Int32) (bd : Int32) (qd : Int32) (hn : n ≤ 7) : MRi l y_E_topicOf (wsM y_E_topicOf b_E_topicOf 4 (some .int)) { frames := 1, cells := 0, slots := 0, locals := 22 } D vwK (tyo cI cJ cO) (oW cI cJ cO h hN ad n f fa σ) [.ref h, .int kd, .int bd, .int qd] (tpI (tpc n kd bd qd)) := by
  refine gj_enterR (own := R_E) (by decide) rfl (Nat.le_of_ble_eq_true rfl) rfl rfl (fun p e s m below meth c cx hr hlk hK => ?_)
  have hKn : va_K D vwK (tyl cI cJ) s := hK.sub [0, 1] rfl
  refine gj_iload_n (pc := 0) cx d_E_topicOf_0 rfl (x := kd) rfl ?_
  refine gj_iconst (pc := 1) cx d_E_topicOf_1 (v := nI 4) (by decide) ?_
  refine gj_icmp_ne (pc := 2) cx d_E_topicOf_2 (tgt := 21) rfl (fun hb1 => ?_) (fun hb1 => ?_)
  · refine gj_iload_n (pc := 21) cx d_E_topicOf_21 rfl (x := kd) rfl ?_
    refine gj_if_lt (pc := 22) cx d_E_topicOf_22 (tgt := 48) rfl (fun hb2 => ?_) (fun hb2 => ?_)
    · refine gj_iconst (pc := 48) cx d_E_topicOf_48 (v := (-1)) (by decide) ?_
      exact gj_iretR (pc := 49) cx hr hlk d_E_topicOf_49 (by rw [tpc_n hb1 (Or.inl hb2)]; rfl)
    · refine gj_iload_n (pc := 25) cx d_E_topicOf_25 rfl (x := kd) rfl ?_
      refine gj_iconst (pc := 26) cx d_E_topicOf_26 (v := nI 3) (by decide) ?_
      refine gj_icmp_gt (pc := 27) cx d_E_topicOf_27 (tgt := 48) rfl (fun hb3 => ?_) (fun hb3 => ?_)
      · refine gj_iconst (pc := 48) cx d_E_topicOf_48 (v := (-1)) (by decide) ?_
        exact gj_iretR (pc := 49) cx hr hlk d_E_topicOf_49 (by rw [tpc_n hb1 (Or.inr (Or.inl hb3))]; rfl)
      · refine gj_aload_n (pc := 30) cx d_E_topicOf_30 rfl (x := h) rfl ?_
        refine gj_iload_n (pc := 31) cx d_E_topicOf_31 rfl (x := bd) rfl ?_
        refine gj_callVRi (pc := 32) (As := [.int bd]) (rest := []) (v := bI (isN n bd)) cx hK (c_E_isNode l D cI cJ cO h hN ad n f fa σ bd ) (cwV 1 cx.2.2.2.2 (good_V wm_76 wm_74 wm_75 wm_533 wm_1) rfl rfl rfl (by decide +kernel) ⟨Nat.le_of_ble_eq_true rfl, Nat.le_of_ble_eq_true rfl⟩) gj_rP 0 1 rfl rfl rfl rfl rfl (Nat.le_of_ble_eq_true rfl) d_E_topicOf_32 ⟨Nat.zero_le _, Nat.zero_le _⟩ ?_
        refine gj_if_eqB (pc := 35) cx d_E_topicOf_35 (tgt := 48) rfl (fun hb4 => ?_) (fun hb4 => ?_)
        · refine gj_iconst (pc := 48) cx d_E_topicOf_48 (v := (-1)) (by decide) ?_
          exact gj_iretR (pc := 49) cx hr hlk d_E_topicOf_49 (by rw [tpc_n hb1 (Or.inr (Or.inr (Or.inl hb4)))]; rfl)
        · refine gj_iload_n (pc := 38) cx d_E_topicOf_38 rfl (x := qd) rfl ?_
          refine gj_iconst (pc := 39) cx d_E_topicOf_39 (v := nI 1) (by decide) ?_
          refine gj_icmp_lt (pc := 40) cx d_E_topicOf_40 (tgt := 48) rfl (fun hb5 => ?_) (fun hb5 => ?_)
          · refine gj_iconst (pc := 48) cx d_E_topicOf_48 (v := (-1)) (by decide) ?_
            exact gj_iretR (pc := 49) cx hr hlk d_E_topicOf_49 (by rw [tpc_n hb1 (Or.inr (Or.inr (Or.inr (Or.inl hb5))))]; rfl)
          · refine gj_iload_n (pc := 43) cx d_E_topicOf_43 rfl (x := qd) rfl ?_
            refine gj_iconst (pc := 44) cx d_E_topicOf_44 (v := nI 5) (by decide) ?_
            refine gj_icmp_le (pc := 45) cx d_E_topicOf_45 (tgt := 50) rfl (fun hb6 => ?_) (fun hb6 => ?_)
            · obtain ⟨k, hk, rfl⟩ := nI_of2 (M := 3) (n := 3) (by decide) hb2 (Int32.not_lt.mp hb3)
              obtain ⟨b, hb, rfl⟩ := isN_of hn hb4
              obtain ⟨q, hq, rfl⟩ := nI_of2 (M := 5) (n := 5) (by decide) (fun z => hb5 (Int32.lt_of_lt_of_le z (by decide))) hb6
              have hq1 : 1 ≤ q := by rcases Nat.lt_or_ge q 1 with z | z; exact absurd ((nI_ltI (a := q) (b := 1) (by omega) (by omega)).mpr z) hb5; exact z
              refine gj_iload_n (pc := 50) cx d_E_topicOf_50 rfl (x := nI k) rfl ?_
              refine gj_iload_n (pc := 51) cx d_E_topicOf_51 rfl (x := nI b) rfl ?_
              refine gj_iload_n (pc := 52) cx d_E_topicOf_52 rfl (x := nI q) rfl ?_
              refine gj_callSRi (pc := 53) (As := [.int (nI k), .int (nI b), .int (nI q)]) (rest := []) (v := nI ((k * 7 + b) * 5 + q - 1)) cx hK (c_T_of l D (tyo cI cJ cO) k b q (by omega)) (va_cwS 3 cx.2.2.2.2 (good_S wm_90 wm_138 wm_89 wm_6) rfl rfl rfl (by decide +kernel) ⟨Nat.le_of_ble_eq_true rfl, Nat.le_of_ble_eq_true rfl⟩) (fun _ _ _ => gj_P0) rfl rfl (Nat.le_of_ble_eq_true rfl) d_E_topicOf_53 ⟨Nat.zero_le _, Nat.zero_le _⟩ ?_
              exact gj_iretR (pc := 56) cx hr hlk d_E_topicOf_56 (by rw [tpc_N hn hk hb hq1 hq]; rfl)
            · refine gj_iconst (pc := 48) cx d_E_topicOf_48 (v := (-1)) (by decide) ?_
              exact gj_iretR (pc := 49) cx hr hlk d_E_topicOf_49 (by rw [tpc_n hb1 (Or.inr (Or.inr (Or.inr (Or.inr (Int32.not_le.mp hb6)))))]; rfl)
  · refine gj_iload_n (pc := 5) cx d_E_topicOf_5 rfl (x := bd) rfl ?_
    refine gj_if_ne (pc := 6) cx d_E_topicOf_6 (tgt := 19) rfl (fun hb7 => ?_) (fun hb7 => ?_)
    · refine gj_iconst (pc := 19) cx d_E_topicOf_19 (v := (-1)) (by decide) ?_
      exact gj_iretR (pc := 20) cx hr hlk d_E_topicOf_20 (by rw [tpc_4a hb1 hb7]; rfl)
    · refine gj_iload_n (pc := 9) cx d_E_topicOf_9 rfl (x := qd) rfl ?_
      refine gj_if_ne (pc := 10) cx d_E_topicOf_10 (tgt := 19) rfl (fun hb8 => ?_) (fun hb8 => ?_)
      · refine gj_iconst (pc := 19) cx d_E_topicOf_19 (v := (-1)) (by decide) ?_
        exact gj_iretR (pc := 20) cx hr hlk d_E_topicOf_20 (by rw [tpc_4b hb1 hb8]; rfl)
      · refine gj_sipush (pc := 13) cx d_E_topicOf_13 (v := nI 140) (by decide) ?_
        refine gj_goto (pc := 16) cx d_E_topicOf_16 (tgt := 20) rfl ?_
        exact gj_iretR (pc := 20) cx hr hlk d_E_topicOf_20 (by rw [tpc_4t hb1 hb7 hb8]; rfl)

set_option maxRecDepth 100000 in
set_option maxHeartbeats 4000000 in
theorem c_E_sent (l : Launch) (D : va_G) (cI cJ cO : ClassId) (h hN : Nat) (ad : Nat → Nat → Nat) (n f fa : Nat) (σ : Nat → NS) (nd : Int32) (kd : Int32) (bd : Int32) (qd : Int32) (hn : n ≤ 7) (hs : ∀ x, x < n → nInv n (σ x)) : MRl l y_E_sent (wsM y_E_sent b_E_sent 6 (some .long)) { frames := 2, cells := 0, slots := 0, locals := 45 } D vwK (tyo cI cJ cO) (oW cI cJ cO h hN ad n f fa σ) [.ref h, .int nd, .int kd, .int bd, .int qd] (eSent n σ nd kd bd qd) := by
  refine gj_enterR (own := R_E) (by decide) rfl (Nat.le_of_ble_eq_true rfl) rfl rfl (fun p e s m below meth c cx hr hlk hK => ?_)
  have hKn : va_K D vwK (tyl cI cJ) s := hK.sub [0, 1] rfl
  refine gj_aload_n (pc := 0) cx d_E_sent_0 rfl (x := h) rfl ?_
  refine gj_iload_n (pc := 1) cx d_E_sent_1 rfl (x := kd) rfl ?_
  refine gj_iload_n (pc := 2) cx d_E_sent_2 rfl (x := bd) rfl ?_
  refine gj_iload (pc := 3) cx d_E_sent_3 (x := qd) rfl ?_
  refine gj_callVRi (pc := 5) (As := [.int kd, .int bd, .int qd]) (rest := []) (v := tpI (tpc n kd bd qd)) cx hK (c_E_topicOf l D cI cJ cO h hN ad n f fa σ kd bd qd (by omega)) (cwV 3 cx.2.2.2.2 (good_V wm_137 wm_135 wm_136 wm_539 wm_1) rfl rfl rfl (by decide +kernel) ⟨Nat.le_of_ble_eq_true rfl, Nat.le_of_ble_eq_true rfl⟩) gj_rP 0 1 rfl rfl rfl rfl rfl (Nat.le_of_ble_eq_true rfl) d_E_sent_5 ⟨Nat.zero_le _, Nat.zero_le _⟩ ?_
  rcases hT : tpc n kd bd qd with _ | t
  · refine gj_toi (y := (-1)) rfl ?_
    refine gj_istore (pc := 8) cx d_E_sent_8 (lo' := [(5, .int (-1)), (0, .ref h), (1, .int nd), (2, .int kd), (3, .int bd), (4, .int qd)]) (by decide) rfl ?_
    refine gj_aload_n (pc := 10) cx d_E_sent_10 rfl (x := h) rfl ?_
    refine gj_iload_n (pc := 11) cx d_E_sent_11 rfl (x := nd) rfl ?_
    refine gj_callVRi (pc := 12) (As := [.int nd]) (rest := []) (v := bI (eCor n σ nd)) cx hK (c_E_isCorrect l D cI cJ cO h hN ad n f fa σ nd (by omega) (by omega)) (cwV 1 cx.2.2.2.2 (good_V wm_122 wm_120 wm_121 wm_538 wm_1) rfl rfl rfl (by decide +kernel) ⟨Nat.le_of_ble_eq_true rfl, Nat.le_of_ble_eq_true rfl⟩) gj_rP 0 1 rfl rfl rfl rfl rfl (Nat.le_of_ble_eq_true rfl) d_E_sent_12 ⟨Nat.zero_le _, Nat.zero_le _⟩ ?_
    refine gj_if_eqB (pc := 15) cx d_E_sent_15 (tgt := 38) rfl (fun hb1 => ?_) (fun hb1 => ?_)
    · refine gj_ldc2 (pc := 38) cx d_E_sent_38 (v := (-1)) (in_WT wm_219) ?_
      exact gj_lretR (pc := 41) cx hr hlk d_E_sent_41 (by rw [eSent, if_neg (by rw [hb1]; decide)])
    · obtain ⟨x, hx, rfl, hcr⟩ := eCor_of hn hb1
      refine gj_iload (pc := 18) cx d_E_sent_18 (x := (-1)) rfl ?_
      refine gj_iconst (pc := 20) cx d_E_sent_20 (v := (-1)) (by decide) ?_
      refine gj_icmp_eq (pc := 21) cx d_E_sent_21 (tgt := 38) rfl (fun hb2 => ?_) (fun hb2 => absurd hb2 (fun z => z rfl))
      refine gj_ldc2 (pc := 38) cx d_E_sent_38 (v := (-1)) (in_WT wm_219) ?_
      exact gj_lretR (pc := 41) cx hr hlk d_E_sent_41 (by rw [eSent, if_pos hb1, hT])
  · refine gj_toi (y := nI t) rfl ?_
    have htt := tpc_lt hn hT
    refine gj_istore (pc := 8) cx d_E_sent_8 (lo' := [(5, .int (nI t)), (0, .ref h), (1, .int nd), (2, .int kd), (3, .int bd), (4, .int qd)]) (by decide) rfl ?_
    refine gj_aload_n (pc := 10) cx d_E_sent_10 rfl (x := h) rfl ?_
    refine gj_iload_n (pc := 11) cx d_E_sent_11 rfl (x := nd) rfl ?_
    refine gj_callVRi (pc := 12) (As := [.int nd]) (rest := []) (v := bI (eCor n σ nd)) cx hK (c_E_isCorrect l D cI cJ cO h hN ad n f fa σ nd (by omega) (by omega)) (cwV 1 cx.2.2.2.2 (good_V wm_122 wm_120 wm_121 wm_538 wm_1) rfl rfl rfl (by decide +kernel) ⟨Nat.le_of_ble_eq_true rfl, Nat.le_of_ble_eq_true rfl⟩) gj_rP 0 1 rfl rfl rfl rfl rfl (Nat.le_of_ble_eq_true rfl) d_E_sent_12 ⟨Nat.zero_le _, Nat.zero_le _⟩ ?_
    refine gj_if_eqB (pc := 15) cx d_E_sent_15 (tgt := 38) rfl (fun hb3 => ?_) (fun hb3 => ?_)
    · refine gj_ldc2 (pc := 38) cx d_E_sent_38 (v := (-1)) (in_WT wm_219) ?_
      exact gj_lretR (pc := 41) cx hr hlk d_E_sent_41 (by rw [eSent, if_neg (by rw [hb3]; decide)])
    · obtain ⟨x, hx, rfl, hcr⟩ := eCor_of hn hb3
      refine gj_iload (pc := 18) cx d_E_sent_18 (x := nI t) rfl ?_
      refine gj_iconst (pc := 20) cx d_E_sent_20 (v := (-1)) (by decide) ?_
      refine gj_icmp_eq (pc := 21) cx d_E_sent_21 (tgt := 38) rfl (fun hb4 => absurd hb4 (nI_m1 (by omega))) (fun hb4 => ?_)
      refine gj_aload_n (pc := 24) cx d_E_sent_24 rfl (x := h) rfl ?_
      refine gj_get (pc := 25) (ci := 1) (C := R_E) (T := T_E) (N := 4) (v := .ref hN) cx hK gj_rP in_E d_E_sent_25 0 rfl rfl 2 (by decide) (in_WT wm_61) rfl ?_
      refine gj_iload_n (pc := 28) cx d_E_sent_28 rfl (x := nI x) rfl ?_
      refine gj_aald (pc := 29) (i := x) (x := ad x 0) cx hK gj_rP d_E_sent_29 1 2 rfl rfl (by omega) (by omega) rfl ?_
      refine gj_iload (pc := 30) cx d_E_sent_30 (x := nI t) rfl ?_
      refine gj_callVRl (pc := 32) (As := [.int (nI t)]) (rest := []) (v := nSa (σ x) t) cx hKn (c_N_said l D cI cJ (ad x) x n f (σ x) t (by omega)) (cwV 1 cx.2.2.2.2 (good_V wm_218 wm_215 wm_216 wm_217 wm_3) rfl rfl rfl (by decide +kernel) ⟨Nat.le_of_ble_eq_true rfl, Nat.le_of_ble_eq_true rfl⟩) (fun H locs hB => oW_P (by omega) (gj_rP H locs hB)) 0 0 rfl rfl rfl rfl rfl (Nat.le_of_ble_eq_true rfl) d_E_sent_32 ⟨Nat.zero_le _, Nat.zero_le _⟩ ?_
      refine gj_goto (pc := 35) cx d_E_sent_35 (tgt := 41) rfl ?_
      exact gj_lretR (pc := 41) cx hr hlk d_E_sent_41 (by rw [eSent, if_pos hb3, hT, xN_nI (by omega)])

set_option maxRecDepth 100000 in
set_option maxHeartbeats 4000000 in
theorem c_E_heard (l : Launch) (D : va_G) (cI cJ cO : ClassId) (h hN : Nat) (ad : Nat → Nat → Nat) (n f fa : Nat) (σ : Nat → NS) (nd : Int32) (kd : Int32) (bd : Int32) (qd : Int32) (hn : n ≤ 7) (hs : ∀ x, x < n → nInv n (σ x)) : MRi l y_E_heard (wsM y_E_heard b_E_heard 6 (some .int)) { frames := 2, cells := 0, slots := 0, locals := 45 } D vwK (tyo cI cJ cO) (oW cI cJ cO h hN ad n f fa σ) [.ref h, .int nd, .int kd, .int bd, .int qd] (eHeard n σ nd kd bd qd) := by
  refine gj_enterR (own := R_E) (by decide) rfl (Nat.le_of_ble_eq_true rfl) rfl rfl (fun p e s m below meth c cx hr hlk hK => ?_)
  have hKn : va_K D vwK (tyl cI cJ) s := hK.sub [0, 1] rfl
  refine gj_aload_n (pc := 0) cx d_E_heard_0 rfl (x := h) rfl ?_
  refine gj_iload_n (pc := 1) cx d_E_heard_1 rfl (x := kd) rfl ?_
  refine gj_iload_n (pc := 2) cx d_E_heard_2 rfl (x := bd) rfl ?_
  refine gj_iload (pc := 3) cx d_E_heard_3 (x := qd) rfl ?_
  refine gj_callVRi (pc := 5) (As := [.int kd, .int bd, .int qd]) (rest := []) (v := tpI (tpc n kd bd qd)) cx hK (c_E_topicOf l D cI cJ cO h hN ad n f fa σ kd bd qd (by omega)) (cwV 3 cx.2.2.2.2 (good_V wm_137 wm_135 wm_136 wm_539 wm_1) rfl rfl rfl (by decide +kernel) ⟨Nat.le_of_ble_eq_true rfl, Nat.le_of_ble_eq_true rfl⟩) gj_rP 0 1 rfl rfl rfl rfl rfl (Nat.le_of_ble_eq_true rfl) d_E_heard_5 ⟨Nat.zero_le _, Nat.zero_le _⟩ ?_
  rcases hT : tpc n kd bd qd with _ | t
  · refine gj_toi (y := (-1)) rfl ?_
    refine gj_istore (pc := 8) cx d_E_heard_8 (lo' := [(5, .int (-1)), (0, .ref h), (1, .int nd), (2, .int kd), (3, .int bd), (4, .int qd)]) (by decide) rfl ?_
    refine gj_aload_n (pc := 10) cx d_E_heard_10 rfl (x := h) rfl ?_
    refine gj_iload_n (pc := 11) cx d_E_heard_11 rfl (x := nd) rfl ?_
    refine gj_callVRi (pc := 12) (As := [.int nd]) (rest := []) (v := bI (eCor n σ nd)) cx hK (c_E_isCorrect l D cI cJ cO h hN ad n f fa σ nd (by omega) (by omega)) (cwV 1 cx.2.2.2.2 (good_V wm_122 wm_120 wm_121 wm_538 wm_1) rfl rfl rfl (by decide +kernel) ⟨Nat.le_of_ble_eq_true rfl, Nat.le_of_ble_eq_true rfl⟩) gj_rP 0 1 rfl rfl rfl rfl rfl (Nat.le_of_ble_eq_true rfl) d_E_heard_12 ⟨Nat.zero_le _, Nat.zero_le _⟩ ?_
    refine gj_if_eqB (pc := 15) cx d_E_heard_15 (tgt := 28) rfl (fun hb1 => ?_) (fun hb1 => ?_)
    · refine gj_iconst (pc := 28) cx d_E_heard_28 (v := (-1)) (by decide) ?_
      exact gj_iretR (pc := 29) cx hr hlk d_E_heard_29 (by rw [eHeard, if_neg (fun z => by rw [hb1] at z; cases z.1)])
    · obtain ⟨x, hx, rfl, hcr⟩ := eCor_of hn hb1
      refine gj_iload (pc := 18) cx d_E_heard_18 (x := (-1)) rfl ?_
      refine gj_iconst (pc := 20) cx d_E_heard_20 (v := (-1)) (by decide) ?_
      refine gj_icmp_eq (pc := 21) cx d_E_heard_21 (tgt := 28) rfl (fun hb2 => ?_) (fun hb2 => absurd hb2 (fun z => z rfl))
      refine gj_iconst (pc := 28) cx d_E_heard_28 (v := (-1)) (by decide) ?_
      exact gj_iretR (pc := 29) cx hr hlk d_E_heard_29 (by rw [eHeard]; split <;> first | rfl | rw [hT])
  · refine gj_toi (y := nI t) rfl ?_
    have htt := tpc_lt hn hT
    refine gj_istore (pc := 8) cx d_E_heard_8 (lo' := [(5, .int (nI t)), (0, .ref h), (1, .int nd), (2, .int kd), (3, .int bd), (4, .int qd)]) (by decide) rfl ?_
    refine gj_aload_n (pc := 10) cx d_E_heard_10 rfl (x := h) rfl ?_
    refine gj_iload_n (pc := 11) cx d_E_heard_11 rfl (x := nd) rfl ?_
    refine gj_callVRi (pc := 12) (As := [.int nd]) (rest := []) (v := bI (eCor n σ nd)) cx hK (c_E_isCorrect l D cI cJ cO h hN ad n f fa σ nd (by omega) (by omega)) (cwV 1 cx.2.2.2.2 (good_V wm_122 wm_120 wm_121 wm_538 wm_1) rfl rfl rfl (by decide +kernel) ⟨Nat.le_of_ble_eq_true rfl, Nat.le_of_ble_eq_true rfl⟩) gj_rP 0 1 rfl rfl rfl rfl rfl (Nat.le_of_ble_eq_true rfl) d_E_heard_12 ⟨Nat.zero_le _, Nat.zero_le _⟩ ?_
    refine gj_if_eqB (pc := 15) cx d_E_heard_15 (tgt := 28) rfl (fun hb3 => ?_) (fun hb3 => ?_)
    · refine gj_iconst (pc := 28) cx d_E_heard_28 (v := (-1)) (by decide) ?_
      exact gj_iretR (pc := 29) cx hr hlk d_E_heard_29 (by rw [eHeard, if_neg (fun z => by rw [hb3] at z; cases z.1)])
    · obtain ⟨x, hx, rfl, hcr⟩ := eCor_of hn hb3
      refine gj_iload (pc := 18) cx d_E_heard_18 (x := nI t) rfl ?_
      refine gj_iconst (pc := 20) cx d_E_heard_20 (v := (-1)) (by decide) ?_
      refine gj_icmp_eq (pc := 21) cx d_E_heard_21 (tgt := 28) rfl (fun hb4 => absurd hb4 (nI_m1 (by omega))) (fun hb4 => ?_)
      refine gj_iload_n (pc := 24) cx d_E_heard_24 rfl (x := kd) rfl ?_
      refine gj_if_ne (pc := 25) cx d_E_heard_25 (tgt := 30) rfl (fun hb5 => ?_) (fun hb5 => ?_)
      · refine gj_aload_n (pc := 30) cx d_E_heard_30 rfl (x := h) rfl ?_
        refine gj_get (pc := 31) (ci := 1) (C := R_E) (T := T_E) (N := 4) (v := .ref hN) cx hK gj_rP in_E d_E_heard_31 0 rfl rfl 2 (by decide) (in_WT wm_61) rfl ?_
        refine gj_iload_n (pc := 34) cx d_E_heard_34 rfl (x := nI x) rfl ?_
        refine gj_aald (pc := 35) (i := x) (x := ad x 0) cx hK gj_rP d_E_heard_35 1 2 rfl rfl (by omega) (by omega) rfl ?_
        refine gj_iload (pc := 36) cx d_E_heard_36 (x := nI t) rfl ?_
        refine gj_callVRi (pc := 38) (As := [.int (nI t)]) (rest := []) (v := nI (nTell (σ x) t n)) cx hKn (c_N_countTellers l D cI cJ (ad x) x n f (σ x) t (by omega) (by omega)) (cwV 1 cx.2.2.2.2 (good_V wm_284 wm_281 wm_282 wm_283 wm_3) rfl rfl rfl (by decide +kernel) ⟨Nat.le_of_ble_eq_true rfl, Nat.le_of_ble_eq_true rfl⟩) (fun H locs hB => oW_P (by omega) (gj_rP H locs hB)) 0 0 rfl rfl rfl rfl rfl (Nat.le_of_ble_eq_true rfl) d_E_heard_38 ⟨Nat.zero_le _, Nat.zero_le _⟩ ?_
        have hv6 := nTell_lt (σ x) t n
        exact gj_iretR (pc := 41) cx hr hlk d_E_heard_41 (by rw [eHeard, if_pos ⟨hb3, hb5⟩, hT, xN_nI (by omega)])
      · refine gj_iconst (pc := 28) cx d_E_heard_28 (v := (-1)) (by decide) ?_
        exact gj_iretR (pc := 29) cx hr hlk d_E_heard_29 (by rw [eHeard, if_neg (fun z => z.2 hb5)])

set_option maxRecDepth 100000 in
set_option maxHeartbeats 4000000 in
theorem c_E_accepted (l : Launch) (D : va_G) (cI cJ cO : ClassId) (h hN : Nat) (ad : Nat → Nat → Nat) (n f fa : Nat) (σ : Nat → NS) (nd : Int32) (bd : Int32) (qd : Int32) (hn : n ≤ 7) (hs : ∀ x, x < n → nInv n (σ x)) : MRl l y_E_accepted (wsM y_E_accepted b_E_accepted 5 (some .long)) { frames := 2, cells := 0, slots := 0, locals := 45 } D vwK (tyo cI cJ cO) (oW cI cJ cO h hN ad n f fa σ) [.ref h, .int nd, .int bd, .int qd] (eAcc n σ nd bd qd) := by
  refine gj_enterR (own := R_E) (by decide) rfl (Nat.le_of_ble_eq_true rfl) rfl rfl (fun p e s m below meth c cx hr hlk hK => ?_)
  have hKn : va_K D vwK (tyl cI cJ) s := hK.sub [0, 1] rfl
  refine gj_aload_n (pc := 0) cx d_E_accepted_0 rfl (x := h) rfl ?_
  refine gj_iconst (pc := 1) cx d_E_accepted_1 (v := nI 3) (by decide) ?_
  refine gj_iload_n (pc := 2) cx d_E_accepted_2 rfl (x := bd) rfl ?_
  refine gj_iload_n (pc := 3) cx d_E_accepted_3 rfl (x := qd) rfl ?_
  refine gj_callVRi (pc := 4) (As := [.int (nI 3), .int bd, .int qd]) (rest := []) (v := tpI (tpc n (nI 3) bd qd)) cx hK (c_E_topicOf l D cI cJ cO h hN ad n f fa σ (nI 3) bd qd (by omega)) (cwV 3 cx.2.2.2.2 (good_V wm_137 wm_135 wm_136 wm_539 wm_1) rfl rfl rfl (by decide +kernel) ⟨Nat.le_of_ble_eq_true rfl, Nat.le_of_ble_eq_true rfl⟩) gj_rP 0 1 rfl rfl rfl rfl rfl (Nat.le_of_ble_eq_true rfl) d_E_accepted_4 ⟨Nat.zero_le _, Nat.zero_le _⟩ ?_
  rcases hT : tpc n (nI 3) bd qd with _ | t
  · refine gj_toi (y := (-1)) rfl ?_
    refine gj_istore (pc := 7) cx d_E_accepted_7 (lo' := [(4, .int (-1)), (0, .ref h), (1, .int nd), (2, .int bd), (3, .int qd)]) (by decide) rfl ?_
    refine gj_aload_n (pc := 9) cx d_E_accepted_9 rfl (x := h) rfl ?_
    refine gj_iload_n (pc := 10) cx d_E_accepted_10 rfl (x := nd) rfl ?_
    refine gj_callVRi (pc := 11) (As := [.int nd]) (rest := []) (v := bI (eCor n σ nd)) cx hK (c_E_isCorrect l D cI cJ cO h hN ad n f fa σ nd (by omega) (by omega)) (cwV 1 cx.2.2.2.2 (good_V wm_122 wm_120 wm_121 wm_538 wm_1) rfl rfl rfl (by decide +kernel) ⟨Nat.le_of_ble_eq_true rfl, Nat.le_of_ble_eq_true rfl⟩) gj_rP 0 1 rfl rfl rfl rfl rfl (Nat.le_of_ble_eq_true rfl) d_E_accepted_11 ⟨Nat.zero_le _, Nat.zero_le _⟩ ?_
    refine gj_if_eqB (pc := 14) cx d_E_accepted_14 (tgt := 40) rfl (fun hb1 => ?_) (fun hb1 => ?_)
    · refine gj_ldc2 (pc := 40) cx d_E_accepted_40 (v := (-1)) (in_WT wm_219) ?_
      exact gj_lretR (pc := 43) cx hr hlk d_E_accepted_43 (by rw [eAcc, if_neg (by rw [hb1]; decide)])
    · obtain ⟨x, hx, rfl, hcr⟩ := eCor_of hn hb1
      refine gj_iload (pc := 17) cx d_E_accepted_17 (x := (-1)) rfl ?_
      refine gj_iconst (pc := 19) cx d_E_accepted_19 (v := (-1)) (by decide) ?_
      refine gj_icmp_eq (pc := 20) cx d_E_accepted_20 (tgt := 40) rfl (fun hb2 => ?_) (fun hb2 => absurd hb2 (fun z => z rfl))
      refine gj_ldc2 (pc := 40) cx d_E_accepted_40 (v := (-1)) (in_WT wm_219) ?_
      exact gj_lretR (pc := 43) cx hr hlk d_E_accepted_43 (by rw [eAcc, if_pos hb1, show tpc n 3 bd qd = _ from hT])
  · refine gj_toi (y := nI t) rfl ?_
    have htt := tpc_lt hn hT
    refine gj_istore (pc := 7) cx d_E_accepted_7 (lo' := [(4, .int (nI t)), (0, .ref h), (1, .int nd), (2, .int bd), (3, .int qd)]) (by decide) rfl ?_
    refine gj_aload_n (pc := 9) cx d_E_accepted_9 rfl (x := h) rfl ?_
    refine gj_iload_n (pc := 10) cx d_E_accepted_10 rfl (x := nd) rfl ?_
    refine gj_callVRi (pc := 11) (As := [.int nd]) (rest := []) (v := bI (eCor n σ nd)) cx hK (c_E_isCorrect l D cI cJ cO h hN ad n f fa σ nd (by omega) (by omega)) (cwV 1 cx.2.2.2.2 (good_V wm_122 wm_120 wm_121 wm_538 wm_1) rfl rfl rfl (by decide +kernel) ⟨Nat.le_of_ble_eq_true rfl, Nat.le_of_ble_eq_true rfl⟩) gj_rP 0 1 rfl rfl rfl rfl rfl (Nat.le_of_ble_eq_true rfl) d_E_accepted_11 ⟨Nat.zero_le _, Nat.zero_le _⟩ ?_
    refine gj_if_eqB (pc := 14) cx d_E_accepted_14 (tgt := 40) rfl (fun hb3 => ?_) (fun hb3 => ?_)
    · refine gj_ldc2 (pc := 40) cx d_E_accepted_40 (v := (-1)) (in_WT wm_219) ?_
      exact gj_lretR (pc := 43) cx hr hlk d_E_accepted_43 (by rw [eAcc, if_neg (by rw [hb3]; decide)])
    · obtain ⟨x, hx, rfl, hcr⟩ := eCor_of hn hb3
      refine gj_iload (pc := 17) cx d_E_accepted_17 (x := nI t) rfl ?_
      refine gj_iconst (pc := 19) cx d_E_accepted_19 (v := (-1)) (by decide) ?_
      refine gj_icmp_eq (pc := 20) cx d_E_accepted_20 (tgt := 40) rfl (fun hb4 => absurd hb4 (nI_m1 (by omega))) (fun hb4 => ?_)
      refine gj_aload_n (pc := 23) cx d_E_accepted_23 rfl (x := h) rfl ?_
      refine gj_get (pc := 24) (ci := 1) (C := R_E) (T := T_E) (N := 4) (v := .ref hN) cx hK gj_rP in_E d_E_accepted_24 0 rfl rfl 2 (by decide) (in_WT wm_61) rfl ?_
      refine gj_iload_n (pc := 27) cx d_E_accepted_27 rfl (x := nI x) rfl ?_
      refine gj_aald (pc := 28) (i := x) (x := ad x 0) cx hK gj_rP d_E_accepted_28 1 2 rfl rfl (by omega) (by omega) rfl ?_
      refine gj_iload (pc := 29) cx d_E_accepted_29 (x := nI t) rfl ?_
      refine gj_callSRi (pc := 31) (As := [.int (nI t)]) (rest := [.ref (ad x 0)]) (v := nI (t % 35)) cx hK (c_T_instance l D (tyo cI cJ cO) t (by omega)) (va_cwS 1 cx.2.2.2.2 (good_S wm_175 wm_289 wm_174 wm_6) rfl rfl rfl (by decide +kernel) ⟨Nat.le_of_ble_eq_true rfl, Nat.le_of_ble_eq_true rfl⟩) (fun _ _ _ => gj_P0) rfl rfl (Nat.le_of_ble_eq_true rfl) d_E_accepted_31 ⟨Nat.zero_le _, Nat.zero_le _⟩ ?_
      refine gj_callVRl (pc := 34) (As := [.int (nI (t % 35))]) (rest := []) (v := nAc (σ x) (t % 35)) cx hKn (c_N_acceptedFor l D cI cJ (ad x) x n f (σ x) (t % 35) (by omega)) (cwV 1 cx.2.2.2.2 (good_V wm_293 wm_290 wm_291 wm_292 wm_3) rfl rfl rfl (by decide +kernel) ⟨Nat.le_of_ble_eq_true rfl, Nat.le_of_ble_eq_true rfl⟩) (fun H locs hB => oW_P (by omega) (gj_rP H locs hB)) 0 0 rfl rfl rfl rfl rfl (Nat.le_of_ble_eq_true rfl) d_E_accepted_34 ⟨Nat.zero_le _, Nat.zero_le _⟩ ?_
      refine gj_goto (pc := 37) cx d_E_accepted_37 (tgt := 43) rfl ?_
      exact gj_lretR (pc := 43) cx hr hlk d_E_accepted_43 (by rw [eAcc, if_pos hb3, show tpc n 3 bd qd = _ from hT, xN_nI (by omega)])

set_option maxRecDepth 100000 in
set_option maxHeartbeats 4000000 in
theorem c_E_applied (l : Launch) (D : va_G) (cI cJ cO : ClassId) (h hN : Nat) (ad : Nat → Nat → Nat) (n f fa : Nat) (σ : Nat → NS) (nd : Int32) (bd : Int32) (hn : n ≤ 7) (hs : ∀ x, x < n → nInv n (σ x)) : MRi l y_E_applied (wsM y_E_applied b_E_applied 3 (some .int)) { frames := 2, cells := 0, slots := 0, locals := 42 } D vwK (tyo cI cJ cO) (oW cI cJ cO h hN ad n f fa σ) [.ref h, .int nd, .int bd] (eApd n σ nd bd) := by
  refine gj_enterR (own := R_E) (by decide) rfl (Nat.le_of_ble_eq_true rfl) rfl rfl (fun p e s m below meth c cx hr hlk hK => ?_)
  have hKn : va_K D vwK (tyl cI cJ) s := hK.sub [0, 1] rfl
  refine gj_aload_n (pc := 0) cx d_E_applied_0 rfl (x := h) rfl ?_
  refine gj_iload_n (pc := 1) cx d_E_applied_1 rfl (x := nd) rfl ?_
  refine gj_callVRi (pc := 2) (As := [.int nd]) (rest := []) (v := bI (eCor n σ nd)) cx hK (c_E_isCorrect l D cI cJ cO h hN ad n f fa σ nd (by omega) (by omega)) (cwV 1 cx.2.2.2.2 (good_V wm_122 wm_120 wm_121 wm_538 wm_1) rfl rfl rfl (by decide +kernel) ⟨Nat.le_of_ble_eq_true rfl, Nat.le_of_ble_eq_true rfl⟩) gj_rP 0 1 rfl rfl rfl rfl rfl (Nat.le_of_ble_eq_true rfl) d_E_applied_2 ⟨Nat.zero_le _, Nat.zero_le _⟩ ?_
  refine gj_if_eqB (pc := 5) cx d_E_applied_5 (tgt := 29) rfl (fun hb1 => ?_) (fun hb1 => ?_)
  · refine gj_iconst (pc := 29) cx d_E_applied_29 (v := (-1)) (by decide) ?_
    exact gj_iretR (pc := 30) cx hr hlk d_E_applied_30 (by rw [eApd, if_neg (fun z => by rw [hb1] at z; cases z.1)])
  · obtain ⟨x, hx, rfl, hcr⟩ := eCor_of hn hb1
    refine gj_aload_n (pc := 8) cx d_E_applied_8 rfl (x := h) rfl ?_
    refine gj_iload_n (pc := 9) cx d_E_applied_9 rfl (x := bd) rfl ?_
    refine gj_callVRi (pc := 10) (As := [.int bd]) (rest := []) (v := bI (isN n bd)) cx hK (c_E_isNode l D cI cJ cO h hN ad n f fa σ bd ) (cwV 1 cx.2.2.2.2 (good_V wm_76 wm_74 wm_75 wm_533 wm_1) rfl rfl rfl (by decide +kernel) ⟨Nat.le_of_ble_eq_true rfl, Nat.le_of_ble_eq_true rfl⟩) gj_rP 0 1 rfl rfl rfl rfl rfl (Nat.le_of_ble_eq_true rfl) d_E_applied_10 ⟨Nat.zero_le _, Nat.zero_le _⟩ ?_
    refine gj_if_eqB (pc := 13) cx d_E_applied_13 (tgt := 29) rfl (fun hb2 => ?_) (fun hb2 => ?_)
    · refine gj_iconst (pc := 29) cx d_E_applied_29 (v := (-1)) (by decide) ?_
      exact gj_iretR (pc := 30) cx hr hlk d_E_applied_30 (by rw [eApd, if_neg (fun z => by rw [hb2] at z; cases z.2)])
    · obtain ⟨b, hb, rfl⟩ := isN_of hn hb2
      refine gj_aload_n (pc := 16) cx d_E_applied_16 rfl (x := h) rfl ?_
      refine gj_get (pc := 17) (ci := 1) (C := R_E) (T := T_E) (N := 4) (v := .ref hN) cx hK gj_rP in_E d_E_applied_17 0 rfl rfl 2 (by decide) (in_WT wm_61) rfl ?_
      refine gj_iload_n (pc := 20) cx d_E_applied_20 rfl (x := nI x) rfl ?_
      refine gj_aald (pc := 21) (i := x) (x := ad x 0) cx hK gj_rP d_E_applied_21 1 2 rfl rfl (by omega) (by omega) rfl ?_
      refine gj_iload_n (pc := 22) cx d_E_applied_22 rfl (x := nI b) rfl ?_
      refine gj_callVRi (pc := 23) (As := [.int (nI b)]) (rest := []) (v := nI (nCn (σ x) b)) cx hKn (c_N_appliedOf l D cI cJ (ad x) x n f (σ x) b (by omega)) (cwV 1 cx.2.2.2.2 (good_V wm_301 wm_298 wm_299 wm_300 wm_3) rfl rfl rfl (by decide +kernel) ⟨Nat.le_of_ble_eq_true rfl, Nat.le_of_ble_eq_true rfl⟩) (fun H locs hB => oW_P (by omega) (gj_rP H locs hB)) 0 0 rfl rfl rfl rfl rfl (Nat.le_of_ble_eq_true rfl) d_E_applied_23 ⟨Nat.zero_le _, Nat.zero_le _⟩ ?_
      refine gj_goto (pc := 26) cx d_E_applied_26 (tgt := 30) rfl ?_
      exact gj_iretR (pc := 30) cx hr hlk d_E_applied_30 (by rw [eApd, if_pos ⟨hb1, hb2⟩, xN_nI (by omega), xN_nI (by omega)])

set_option maxRecDepth 100000 in
set_option maxHeartbeats 4000000 in
theorem c_E_balance (l : Launch) (D : va_G) (cI cJ cO : ClassId) (h hN : Nat) (ad : Nat → Nat → Nat) (n f fa : Nat) (σ : Nat → NS) (nd : Int32) (bd : Int32) (hn : n ≤ 7) (hs : ∀ x, x < n → nInv n (σ x)) : MRl l y_E_balance (wsM y_E_balance b_E_balance 3 (some .long)) { frames := 2, cells := 0, slots := 0, locals := 42 } D vwK (tyo cI cJ cO) (oW cI cJ cO h hN ad n f fa σ) [.ref h, .int nd, .int bd] (eBal n σ nd bd) := by
  refine gj_enterR (own := R_E) (by decide) rfl (Nat.le_of_ble_eq_true rfl) rfl rfl (fun p e s m below meth c cx hr hlk hK => ?_)
  have hKn : va_K D vwK (tyl cI cJ) s := hK.sub [0, 1] rfl
  refine gj_aload_n (pc := 0) cx d_E_balance_0 rfl (x := h) rfl ?_
  refine gj_iload_n (pc := 1) cx d_E_balance_1 rfl (x := nd) rfl ?_
  refine gj_callVRi (pc := 2) (As := [.int nd]) (rest := []) (v := bI (eCor n σ nd)) cx hK (c_E_isCorrect l D cI cJ cO h hN ad n f fa σ nd (by omega) (by omega)) (cwV 1 cx.2.2.2.2 (good_V wm_122 wm_120 wm_121 wm_538 wm_1) rfl rfl rfl (by decide +kernel) ⟨Nat.le_of_ble_eq_true rfl, Nat.le_of_ble_eq_true rfl⟩) gj_rP 0 1 rfl rfl rfl rfl rfl (Nat.le_of_ble_eq_true rfl) d_E_balance_2 ⟨Nat.zero_le _, Nat.zero_le _⟩ ?_
  refine gj_if_eqB (pc := 5) cx d_E_balance_5 (tgt := 29) rfl (fun hb1 => ?_) (fun hb1 => ?_)
  · refine gj_ldc2 (pc := 29) cx d_E_balance_29 (v := (-1)) (in_WT wm_219) ?_
    exact gj_lretR (pc := 32) cx hr hlk d_E_balance_32 (by rw [eBal, if_neg (fun z => by rw [hb1] at z; cases z.1)])
  · obtain ⟨x, hx, rfl, hcr⟩ := eCor_of hn hb1
    refine gj_aload_n (pc := 8) cx d_E_balance_8 rfl (x := h) rfl ?_
    refine gj_iload_n (pc := 9) cx d_E_balance_9 rfl (x := bd) rfl ?_
    refine gj_callVRi (pc := 10) (As := [.int bd]) (rest := []) (v := bI (isN n bd)) cx hK (c_E_isNode l D cI cJ cO h hN ad n f fa σ bd ) (cwV 1 cx.2.2.2.2 (good_V wm_76 wm_74 wm_75 wm_533 wm_1) rfl rfl rfl (by decide +kernel) ⟨Nat.le_of_ble_eq_true rfl, Nat.le_of_ble_eq_true rfl⟩) gj_rP 0 1 rfl rfl rfl rfl rfl (Nat.le_of_ble_eq_true rfl) d_E_balance_10 ⟨Nat.zero_le _, Nat.zero_le _⟩ ?_
    refine gj_if_eqB (pc := 13) cx d_E_balance_13 (tgt := 29) rfl (fun hb2 => ?_) (fun hb2 => ?_)
    · refine gj_ldc2 (pc := 29) cx d_E_balance_29 (v := (-1)) (in_WT wm_219) ?_
      exact gj_lretR (pc := 32) cx hr hlk d_E_balance_32 (by rw [eBal, if_neg (fun z => by rw [hb2] at z; cases z.2)])
    · obtain ⟨b, hb, rfl⟩ := isN_of hn hb2
      refine gj_aload_n (pc := 16) cx d_E_balance_16 rfl (x := h) rfl ?_
      refine gj_get (pc := 17) (ci := 1) (C := R_E) (T := T_E) (N := 4) (v := .ref hN) cx hK gj_rP in_E d_E_balance_17 0 rfl rfl 2 (by decide) (in_WT wm_61) rfl ?_
      refine gj_iload_n (pc := 20) cx d_E_balance_20 rfl (x := nI x) rfl ?_
      refine gj_aald (pc := 21) (i := x) (x := ad x 0) cx hK gj_rP d_E_balance_21 1 2 rfl rfl (by omega) (by omega) rfl ?_
      refine gj_iload_n (pc := 22) cx d_E_balance_22 rfl (x := nI b) rfl ?_
      refine gj_callVRl (pc := 23) (As := [.int (nI b)]) (rest := []) (v := nBa (σ x) b) cx hKn (c_N_balanceOf l D cI cJ (ad x) x n f (σ x) b (by omega)) (cwV 1 cx.2.2.2.2 (good_V wm_309 wm_306 wm_307 wm_308 wm_3) rfl rfl rfl (by decide +kernel) ⟨Nat.le_of_ble_eq_true rfl, Nat.le_of_ble_eq_true rfl⟩) (fun H locs hB => oW_P (by omega) (gj_rP H locs hB)) 0 0 rfl rfl rfl rfl rfl (Nat.le_of_ble_eq_true rfl) d_E_balance_23 ⟨Nat.zero_le _, Nat.zero_le _⟩ ?_
      refine gj_goto (pc := 26) cx d_E_balance_26 (tgt := 32) rfl ?_
      exact gj_lretR (pc := 32) cx hr hlk d_E_balance_32 (by rw [eBal, if_pos ⟨hb1, hb2⟩, xN_nI (by omega), xN_nI (by omega)])

set_option maxRecDepth 100000 in
set_option maxHeartbeats 4000000 in
theorem c_E_freed (l : Launch) (D : va_G) (cI cJ cO : ClassId) (h hN : Nat) (ad : Nat → Nat → Nat) (n f fa : Nat) (σ : Nat → NS) (nd : Int32) (bd : Int32) (hn : n ≤ 7) (hs : ∀ x, x < n → nInv n (σ x)) : MRi l y_E_freed (wsM y_E_freed b_E_freed 3 (some .int)) { frames := 2, cells := 0, slots := 0, locals := 42 } D vwK (tyo cI cJ cO) (oW cI cJ cO h hN ad n f fa σ) [.ref h, .int nd, .int bd] (eFrd n σ nd bd) := by
  refine gj_enterR (own := R_E) (by decide) rfl (Nat.le_of_ble_eq_true rfl) rfl rfl (fun p e s m below meth c cx hr hlk hK => ?_)
  have hKn : va_K D vwK (tyl cI cJ) s := hK.sub [0, 1] rfl
  refine gj_aload_n (pc := 0) cx d_E_freed_0 rfl (x := h) rfl ?_
  refine gj_iload_n (pc := 1) cx d_E_freed_1 rfl (x := nd) rfl ?_
  refine gj_callVRi (pc := 2) (As := [.int nd]) (rest := []) (v := bI (eCor n σ nd)) cx hK (c_E_isCorrect l D cI cJ cO h hN ad n f fa σ nd (by omega) (by omega)) (cwV 1 cx.2.2.2.2 (good_V wm_122 wm_120 wm_121 wm_538 wm_1) rfl rfl rfl (by decide +kernel) ⟨Nat.le_of_ble_eq_true rfl, Nat.le_of_ble_eq_true rfl⟩) gj_rP 0 1 rfl rfl rfl rfl rfl (Nat.le_of_ble_eq_true rfl) d_E_freed_2 ⟨Nat.zero_le _, Nat.zero_le _⟩ ?_
  refine gj_if_eqB (pc := 5) cx d_E_freed_5 (tgt := 29) rfl (fun hb1 => ?_) (fun hb1 => ?_)
  · refine gj_iconst (pc := 29) cx d_E_freed_29 (v := (-1)) (by decide) ?_
    exact gj_iretR (pc := 30) cx hr hlk d_E_freed_30 (by rw [eFrd, if_neg (fun z => by rw [hb1] at z; cases z.1)])
  · obtain ⟨x, hx, rfl, hcr⟩ := eCor_of hn hb1
    refine gj_aload_n (pc := 8) cx d_E_freed_8 rfl (x := h) rfl ?_
    refine gj_iload_n (pc := 9) cx d_E_freed_9 rfl (x := bd) rfl ?_
    refine gj_callVRi (pc := 10) (As := [.int bd]) (rest := []) (v := bI (isN n bd)) cx hK (c_E_isNode l D cI cJ cO h hN ad n f fa σ bd ) (cwV 1 cx.2.2.2.2 (good_V wm_76 wm_74 wm_75 wm_533 wm_1) rfl rfl rfl (by decide +kernel) ⟨Nat.le_of_ble_eq_true rfl, Nat.le_of_ble_eq_true rfl⟩) gj_rP 0 1 rfl rfl rfl rfl rfl (Nat.le_of_ble_eq_true rfl) d_E_freed_10 ⟨Nat.zero_le _, Nat.zero_le _⟩ ?_
    refine gj_if_eqB (pc := 13) cx d_E_freed_13 (tgt := 29) rfl (fun hb2 => ?_) (fun hb2 => ?_)
    · refine gj_iconst (pc := 29) cx d_E_freed_29 (v := (-1)) (by decide) ?_
      exact gj_iretR (pc := 30) cx hr hlk d_E_freed_30 (by rw [eFrd, if_neg (fun z => by rw [hb2] at z; cases z.2)])
    · obtain ⟨b, hb, rfl⟩ := isN_of hn hb2
      refine gj_aload_n (pc := 16) cx d_E_freed_16 rfl (x := h) rfl ?_
      refine gj_get (pc := 17) (ci := 1) (C := R_E) (T := T_E) (N := 4) (v := .ref hN) cx hK gj_rP in_E d_E_freed_17 0 rfl rfl 2 (by decide) (in_WT wm_61) rfl ?_
      refine gj_iload_n (pc := 20) cx d_E_freed_20 rfl (x := nI x) rfl ?_
      refine gj_aald (pc := 21) (i := x) (x := ad x 0) cx hK gj_rP d_E_freed_21 1 2 rfl rfl (by omega) (by omega) rfl ?_
      refine gj_iload_n (pc := 22) cx d_E_freed_22 rfl (x := nI b) rfl ?_
      refine gj_callVRi (pc := 23) (As := [.int (nI b)]) (rest := []) (v := nI (nFr (σ x) b)) cx hKn (c_N_freedOf l D cI cJ (ad x) x n f (σ x) b (by omega)) (cwV 1 cx.2.2.2.2 (good_V wm_317 wm_314 wm_315 wm_316 wm_3) rfl rfl rfl (by decide +kernel) ⟨Nat.le_of_ble_eq_true rfl, Nat.le_of_ble_eq_true rfl⟩) (fun H locs hB => oW_P (by omega) (gj_rP H locs hB)) 0 0 rfl rfl rfl rfl rfl (Nat.le_of_ble_eq_true rfl) d_E_freed_23 ⟨Nat.zero_le _, Nat.zero_le _⟩ ?_
      refine gj_goto (pc := 26) cx d_E_freed_26 (tgt := 30) rfl ?_
      exact gj_iretR (pc := 30) cx hr hlk d_E_freed_30 (by rw [eFrd, if_pos ⟨hb1, hb2⟩, xN_nI (by omega), xN_nI (by omega)])

set_option maxRecDepth 100000 in
set_option maxHeartbeats 4000000 in
theorem c_E_kept (l : Launch) (D : va_G) (cI cJ cO : ClassId) (h hN : Nat) (ad : Nat → Nat → Nat) (n f fa : Nat) (σ : Nat → NS) (nd : Int32) (hn : n ≤ 7) (hs : ∀ x, x < n → nInv n (σ x)) : MRi l y_E_kept (wsM y_E_kept b_E_kept 2 (some .int)) { frames := 3, cells := 0, slots := 0, locals := 66 } D vwK (tyo cI cJ cO) (oW cI cJ cO h hN ad n f fa σ) [.ref h, .int nd] (eKept n σ nd) := by
  refine gj_enterR (own := R_E) (by decide) rfl (Nat.le_of_ble_eq_true rfl) rfl rfl (fun p e s m below meth c cx hr hlk hK => ?_)
  have hKn : va_K D vwK (tyl cI cJ) s := hK.sub [0, 1] rfl
  refine gj_aload_n (pc := 0) cx d_E_kept_0 rfl (x := h) rfl ?_
  refine gj_iload_n (pc := 1) cx d_E_kept_1 rfl (x := nd) rfl ?_
  refine gj_callVRi (pc := 2) (As := [.int nd]) (rest := []) (v := bI (eCor n σ nd)) cx hK (c_E_isCorrect l D cI cJ cO h hN ad n f fa σ nd (by omega) (by omega)) (cwV 1 cx.2.2.2.2 (good_V wm_122 wm_120 wm_121 wm_538 wm_1) rfl rfl rfl (by decide +kernel) ⟨Nat.le_of_ble_eq_true rfl, Nat.le_of_ble_eq_true rfl⟩) gj_rP 0 1 rfl rfl rfl rfl rfl (Nat.le_of_ble_eq_true rfl) d_E_kept_2 ⟨Nat.zero_le _, Nat.zero_le _⟩ ?_
  refine gj_if_eqB (pc := 5) cx d_E_kept_5 (tgt := 20) rfl (fun hb1 => ?_) (fun hb1 => ?_)
  · refine gj_iconst (pc := 20) cx d_E_kept_20 (v := (-1)) (by decide) ?_
    exact gj_iretR (pc := 21) cx hr hlk d_E_kept_21 (by rw [eKept, if_neg (by rw [hb1]; decide)])
  · obtain ⟨x, hx, rfl, hcr⟩ := eCor_of hn hb1
    refine gj_aload_n (pc := 8) cx d_E_kept_8 rfl (x := h) rfl ?_
    refine gj_get (pc := 9) (ci := 1) (C := R_E) (T := T_E) (N := 4) (v := .ref hN) cx hK gj_rP in_E d_E_kept_9 0 rfl rfl 2 (by decide) (in_WT wm_61) rfl ?_
    refine gj_iload_n (pc := 12) cx d_E_kept_12 rfl (x := nI x) rfl ?_
    refine gj_aald (pc := 13) (i := x) (x := ad x 0) cx hK gj_rP d_E_kept_13 1 2 rfl rfl (by omega) (by omega) rfl ?_
    refine gj_callVRi (pc := 14) (As := []) (rest := []) (v := nI (nKept (σ x) n)) cx hKn (c_N_countKept l D cI cJ (ad x) x n f (σ x)  (by omega)) (cwV 0 cx.2.2.2.2 (good_V wm_325 wm_322 wm_323 wm_324 wm_3) rfl rfl rfl (by decide +kernel) ⟨Nat.le_of_ble_eq_true rfl, Nat.le_of_ble_eq_true rfl⟩) (fun H locs hB => oW_P (by omega) (gj_rP H locs hB)) 0 0 rfl rfl rfl rfl rfl (Nat.le_of_ble_eq_true rfl) d_E_kept_14 ⟨Nat.zero_le _, Nat.zero_le _⟩ ?_
    refine gj_goto (pc := 17) cx d_E_kept_17 (tgt := 21) rfl ?_
    exact gj_iretR (pc := 21) cx hr hlk d_E_kept_21 (by rw [eKept, if_pos hb1, xN_nI (by omega)])

set_option maxRecDepth 100000 in
set_option maxHeartbeats 4000000 in
theorem c_E_takers (l : Launch) (D : va_G) (cI cJ cO : ClassId) (h hN : Nat) (ad : Nat → Nat → Nat) (n f fa : Nat) (σ : Nat → NS) (t : Nat) (y : Nat) (hn : n ≤ 7) (hs : ∀ x, x < n → nInv n (σ x)) (ht : t < 141) (hy : y < n) : MRi l y_E_takers (wsM y_E_takers b_E_takers 7 (some .int)) { frames := 3, cells := 0, slots := 0, locals := 73 } D vwK (tyo cI cJ cO) (oW cI cJ cO h hN ad n f fa σ) [.ref h, .int (nI t), .int (nI y)] (nI (eTak n σ t y)) := by
  refine gj_enterR (own := R_E) (by decide) rfl (Nat.le_of_ble_eq_true rfl) rfl rfl (fun p e s m below meth c cx hr hlk hK => ?_)
  have hKn : va_K D vwK (tyl cI cJ) s := hK.sub [0, 1] rfl
  refine gj_aload_n (pc := 0) cx d_E_takers_0 rfl (x := h) rfl ?_
  refine gj_get (pc := 1) (ci := 1) (C := R_E) (T := T_E) (N := 4) (v := .ref hN) cx hK gj_rP in_E d_E_takers_1 0 rfl rfl 2 (by decide) (in_WT wm_61) rfl ?_
  refine gj_iload_n (pc := 4) cx d_E_takers_4 rfl (x := nI y) rfl ?_
  refine gj_aald (pc := 5) (i := y) (x := ad y 0) cx hK gj_rP d_E_takers_5 1 2 rfl rfl (by omega) (by omega) rfl ?_
  refine gj_iload_n (pc := 6) cx d_E_takers_6 rfl (x := nI t) rfl ?_
  refine gj_callVRl (pc := 7) (As := [.int (nI t)]) (rest := []) (v := nSa (σ y) t) cx hKn (c_N_said l D cI cJ (ad y) y n f (σ y) t (by omega)) (cwV 1 cx.2.2.2.2 (good_V wm_218 wm_215 wm_216 wm_217 wm_3) rfl rfl rfl (by decide +kernel) ⟨Nat.le_of_ble_eq_true rfl, Nat.le_of_ble_eq_true rfl⟩) (fun H locs hB => oW_P (by omega) (gj_rP H locs hB)) 0 0 rfl rfl rfl rfl rfl (Nat.le_of_ble_eq_true rfl) d_E_takers_7 ⟨Nat.zero_le _, Nat.zero_le _⟩ ?_
  refine gj_lstore_n (pc := 10) cx d_E_takers_10 rfl (lo' := [(3, .long (nSa (σ y) t)), (0, .ref h), (1, .int (nI t)), (2, .int (nI y))]) (by decide) rfl ?_
  refine gj_lload_n (pc := 11) cx d_E_takers_11 rfl (x := nSa (σ y) t) rfl ?_
  refine gj_ldc2 (pc := 12) cx d_E_takers_12 (v := (-1)) (in_WT wm_219) ?_
  refine gj_lcmp_eq (pc := 15) cx d_E_takers_15 d_E_takers_16 (tgt := 27) rfl (fun hb1 => ?_) (fun hb1 => ?_)
  · refine gj_iconst (pc := 27) cx d_E_takers_27 (v := nI 0) (by decide) ?_
    exact gj_iretR (pc := 28) cx hr hlk d_E_takers_28 (by rw [eTak_0a hb1])
  · refine gj_aload_n (pc := 19) cx d_E_takers_19 rfl (x := h) rfl ?_
    refine gj_iload_n (pc := 20) cx d_E_takers_20 rfl (x := nI y) rfl ?_
    refine gj_callVRi (pc := 21) (As := [.int (nI y)]) (rest := []) (v := bI (eCor n σ (nI y))) cx hK (c_E_isCorrect l D cI cJ cO h hN ad n f fa σ (nI y) (by omega) (hs)) (cwV 1 cx.2.2.2.2 (good_V wm_122 wm_120 wm_121 wm_538 wm_1) rfl rfl rfl (by decide +kernel) ⟨Nat.le_of_ble_eq_true rfl, Nat.le_of_ble_eq_true rfl⟩) gj_rP 0 1 rfl rfl rfl rfl rfl (Nat.le_of_ble_eq_true rfl) d_E_takers_21 ⟨Nat.zero_le _, Nat.zero_le _⟩ ?_
    refine gj_if_neB (pc := 24) cx d_E_takers_24 (tgt := 29) rfl (fun hb2 => ?_) (fun hb2 => ?_)
    · have hyc : nCo (σ y) ≠ 2 := by simpa [eCor_N hn hy] using hb2
      refine gj_iconst (pc := 29) cx d_E_takers_29 (v := nI 0) (by decide) ?_
      refine gj_istore (pc := 30) cx d_E_takers_30 (lo' := [(5, .int (nI 0)), (3, .long (nSa (σ y) t)), (0, .ref h), (1, .int (nI t)), (2, .int (nI y))]) (by decide) rfl ?_
      refine gj_iconst (pc := 32) cx d_E_takers_32 (v := nI 0) (by decide) ?_
      refine gj_istore (pc := 33) cx d_E_takers_33 (lo' := [(6, .int (nI 0)), (5, .int (nI 0)), (3, .long (nSa (σ y) t)), (0, .ref h), (1, .int (nI t)), (2, .int (nI y))]) (by decide) rfl ?_
      refine gj_pick (lo' := [(0, .ref h), (1, .int (nI t)), (2, .int (nI y)), (3, .long (nSa (σ y) t)), (5, .int (nI 0)), (6, .int (nI 0))]) [3, 4, 5, 2, 1, 0] rfl ?_
      refine gj_forG (G := Gj p l e _ s m _ below meth c _ _ _ _ _) n 35 (fun i => [(0, .ref h), (1, .int (nI t)), (2, .int (nI y)), (3, .long (nSa (σ y) t)), (5, .int (nI (msk (ePd σ t y) i))), (6, .int (nI i))]) (fun i => oW cI cJ cO h hN ad n f fa σ) (fun i hi ihi => ?_) 0 (by omega)
      refine gj_iload (pc := 35) cx d_E_takers_35 (x := nI i) rfl ?_
      refine gj_aload_n (pc := 37) cx d_E_takers_37 rfl (x := h) rfl ?_
      refine gj_get (pc := 38) (ci := 1) (C := R_E) (T := T_E) (N := 4) (v := .int (nI n)) cx hK gj_rP in_E d_E_takers_38 0 rfl rfl 0 (by decide) (in_WT wm_59) rfl ?_
      refine gj_icmp_geN (pc := 41) cx d_E_takers_41 (tgt := 75) rfl (by omega) (by omega) (fun hb3 => ?_) (fun hb3 => ?_)
      · refine gj_iload (pc := 75) cx d_E_takers_75 (x := nI (msk (ePd σ t y) i)) rfl ?_
        exact gj_iretR (pc := 77) cx hr hlk d_E_takers_77 (by rw [show i = n from (by omega)]; rfl)
      · refine gj_aload_n (pc := 44) cx d_E_takers_44 rfl (x := h) rfl ?_
        refine gj_get (pc := 45) (ci := 1) (C := R_E) (T := T_E) (N := 4) (v := .ref hN) cx hK gj_rP in_E d_E_takers_45 0 rfl rfl 2 (by decide) (in_WT wm_61) rfl ?_
        refine gj_iload (pc := 48) cx d_E_takers_48 (x := nI i) rfl ?_
        refine gj_aald (pc := 50) (i := i) (x := ad i 0) cx hK gj_rP d_E_takers_50 1 2 rfl rfl (by omega) (by omega) rfl ?_
        refine gj_iload_n (pc := 51) cx d_E_takers_51 rfl (x := nI t) rfl ?_
        refine gj_iload_n (pc := 52) cx d_E_takers_52 rfl (x := nI y) rfl ?_
        refine gj_lload_n (pc := 53) cx d_E_takers_53 rfl (x := nSa (σ y) t) rfl ?_
        refine gj_callVRi (pc := 54) (As := [.int (nI t), .int (nI y), .long (nSa (σ y) t)]) (rest := []) (v := bI (nWould (σ i) t y (nSa (σ y) t))) cx hKn (c_N_wouldTake l D cI cJ (ad i) i n f (σ i) t y (nSa (σ y) t) ((hs i (by omega)).1) (by omega) (by omega)) (cwV 3 cx.2.2.2.2 (good_V wm_233 wm_230 wm_231 wm_232 wm_3) rfl rfl rfl (by decide +kernel) ⟨Nat.le_of_ble_eq_true rfl, Nat.le_of_ble_eq_true rfl⟩) (fun H locs hB => oW_P (by omega) (gj_rP H locs hB)) 0 0 rfl rfl rfl rfl rfl (Nat.le_of_ble_eq_true rfl) d_E_takers_54 ⟨Nat.zero_le _, Nat.zero_le _⟩ ?_
        refine gj_if_eqB (pc := 57) cx d_E_takers_57 (tgt := 69) rfl (fun hb4 => ?_) (fun hb4 => ?_)
        · refine gj_iincN (pc := 69) cx d_E_takers_69 (k := 5) (d := 1) (lo' := [(6, .int (nI (i + 1))), (0, .ref h), (1, .int (nI t)), (2, .int (nI y)), (3, .long (nSa (σ y) t)), (5, .int (nI (msk (ePd σ t y) i)))]) rfl (by decide) (by decide) rfl ?_
          refine gj_goto (pc := 72) cx d_E_takers_72 (tgt := 35) rfl ?_
          refine gj_pick (lo' := [(0, .ref h), (1, .int (nI t)), (2, .int (nI y)), (3, .long (nSa (σ y) t)), (5, .int (nI (msk (ePd σ t y) i))), (6, .int (nI (i + 1)))]) [1, 2, 3, 4, 5, 0] rfl ?_
          exact gj_eq rfl (by rw [msk_f (by simp [ePd, hyc, hb1, hb4])]) rfl (rfl) (ihi (by omega))
        · refine gj_iload (pc := 60) cx d_E_takers_60 (x := nI (msk (ePd σ t y) i)) rfl ?_
          refine gj_iconst (pc := 62) cx d_E_takers_62 (v := nI 1) (by decide) ?_
          refine gj_iload (pc := 63) cx d_E_takers_63 (x := nI i) rfl ?_
          refine gj_ishlN (pc := 65) cx d_E_takers_65 (by omega) (by have : 2 ^ i ≤ 2 ^ 6 := Nat.pow_le_pow_right (by decide) (by omega); omega) ?_
          refine gj_ior (pc := 66) cx d_E_takers_66 ?_
          refine gj_toi (y := nI (msk (ePd σ t y) i + 2 ^ i)) (msk_or _ (by omega)) ?_
          refine gj_istore (pc := 67) cx d_E_takers_67 (lo' := [(5, .int (nI (msk (ePd σ t y) i + 2 ^ i))), (0, .ref h), (1, .int (nI t)), (2, .int (nI y)), (3, .long (nSa (σ y) t)), (6, .int (nI i))]) (by decide) rfl ?_
          refine gj_iincN (pc := 69) cx d_E_takers_69 (k := 5) (d := 1) (lo' := [(6, .int (nI (i + 1))), (5, .int (nI (msk (ePd σ t y) i + 2 ^ i))), (0, .ref h), (1, .int (nI t)), (2, .int (nI y)), (3, .long (nSa (σ y) t))]) rfl (by decide) (by decide) rfl ?_
          refine gj_goto (pc := 72) cx d_E_takers_72 (tgt := 35) rfl ?_
          refine gj_pick (lo' := [(0, .ref h), (1, .int (nI t)), (2, .int (nI y)), (3, .long (nSa (σ y) t)), (5, .int (nI (msk (ePd σ t y) i + 2 ^ i))), (6, .int (nI (i + 1)))]) [2, 3, 4, 5, 1, 0] rfl ?_
          exact gj_eq rfl (by rw [msk_t (by simp [ePd, hyc, hb1, hb4])]) rfl (rfl) (ihi (by omega))
    · refine gj_iconst (pc := 27) cx d_E_takers_27 (v := nI 0) (by decide) ?_
      exact gj_iretR (pc := 28) cx hr hlk d_E_takers_28 (by rw [eTak_0b (by simpa [eCor_N hn hy] using hb2)])

set_option maxRecDepth 100000 in
set_option maxHeartbeats 4000000 in
theorem c_E_firstPending (l : Launch) (D : va_G) (cI cJ cO : ClassId) (h hN : Nat) (ad : Nat → Nat → Nat) (n f fa : Nat) (σ : Nat → NS)  (hn : n ≤ 7) (hs : ∀ x, x < n → nInv n (σ x)) : MRi l y_E_firstPending (wsM y_E_firstPending b_E_firstPending 5 (some .int)) { frames := 4, cells := 0, slots := 0, locals := 99 } D vwK (tyo cI cJ cO) (oW cI cJ cO h hN ad n f fa σ) [.ref h] (if eFst n σ = 6909 then -1 else nI (eFst n σ)) := by
  refine gj_enterR (own := R_E) (by decide) rfl (Nat.le_of_ble_eq_true rfl) rfl rfl (fun p e s m below meth c cx hr hlk hK => ?_)
  have hKn : va_K D vwK (tyl cI cJ) s := hK.sub [0, 1] rfl
  refine gj_iconst (pc := 0) cx d_E_firstPending_0 (v := nI 0) (by decide) ?_
  refine gj_istore_n (pc := 1) cx d_E_firstPending_1 rfl (lo' := [(1, .int (nI 0)), (0, .ref h)]) (by decide) rfl ?_
  refine gj_pick (lo' := [(0, .ref h), (1, .int (nI 0))]) [1, 0] rfl ?_
  refine gj_forH (G := Gj p l e _ s m _ below meth c _ _ _ _ _) (fun t => ∀ k, k < t * 49 → ePm n σ k = false) 141 2 (fun t => [(0, .ref h), (1, .int (nI t))]) (fun t => oW cI cJ cO h hN ad n f fa σ) (fun t ht iht qt => ?_) 0 (by omega) (fun k hk => by omega)
  refine gj_iload_n (pc := 2) cx d_E_firstPending_2 rfl (x := nI t) rfl ?_
  refine gj_sipush (pc := 3) cx d_E_firstPending_3 (v := nI 141) (by decide) ?_
  refine gj_icmp_geN (pc := 6) cx d_E_firstPending_6 (tgt := 83) rfl (by omega) (by omega) (fun hb1 => ?_) (fun hb1 => ?_)
  · refine gj_iconst (pc := 83) cx d_E_firstPending_83 (v := (-1)) (by decide) ?_
    exact gj_iretR (pc := 84) cx hr hlk d_E_firstPending_84 (by have e : eFst n σ = 6909 := fstB_none (fun k hk => qt k (by omega)); rw [if_pos e])
  · refine gj_iconst (pc := 9) cx d_E_firstPending_9 (v := nI 0) (by decide) ?_
    refine gj_istore_n (pc := 10) cx d_E_firstPending_10 rfl (lo' := [(2, .int (nI 0)), (0, .ref h), (1, .int (nI t))]) (by decide) rfl ?_
    refine gj_pick (lo' := [(0, .ref h), (1, .int (nI t)), (2, .int (nI 0))]) [1, 2, 0] rfl ?_
    refine gj_forH (G := Gj p l e _ s m _ below meth c _ _ _ _ _) (fun y => ∀ k, k < (t * 7 + y) * 7 → ePm n σ k = false) n 11 (fun y => [(0, .ref h), (1, .int (nI t)), (2, .int (nI y))]) (fun y => oW cI cJ cO h hN ad n f fa σ) (fun y hy ihy qy => ?_) 0 (by omega) (fun k hk => qt k (by omega))
    refine gj_iload_n (pc := 11) cx d_E_firstPending_11 rfl (x := nI y) rfl ?_
    refine gj_aload_n (pc := 12) cx d_E_firstPending_12 rfl (x := h) rfl ?_
    refine gj_get (pc := 13) (ci := 1) (C := R_E) (T := T_E) (N := 4) (v := .int (nI n)) cx hK gj_rP in_E d_E_firstPending_13 0 rfl rfl 0 (by decide) (in_WT wm_59) rfl ?_
    refine gj_icmp_geN (pc := 16) cx d_E_firstPending_16 (tgt := 77) rfl (by omega) (by omega) (fun hb2 => ?_) (fun hb2 => ?_)
    · refine gj_iincN (pc := 77) cx d_E_firstPending_77 (k := 1) (d := 1) (lo' := [(1, .int (nI (t + 1))), (0, .ref h), (2, .int (nI y))]) rfl (by decide) (by decide) rfl ?_
      refine gj_goto (pc := 80) cx d_E_firstPending_80 (tgt := 2) rfl ?_
      refine gj_pick (lo' := [(0, .ref h), (1, .int (nI (t + 1)))]) [1, 0] rfl ?_
      exact gj_eq rfl (rfl) rfl (rfl) (iht (by omega) (ePm_y ((show y = n from (by omega)) ▸ qy)))
    · refine gj_aload_n (pc := 19) cx d_E_firstPending_19 rfl (x := h) rfl ?_
      refine gj_iload_n (pc := 20) cx d_E_firstPending_20 rfl (x := nI t) rfl ?_
      refine gj_iload_n (pc := 21) cx d_E_firstPending_21 rfl (x := nI y) rfl ?_
      refine gj_callVRi (pc := 22) (As := [.int (nI t), .int (nI y)]) (rest := []) (v := nI (eTak n σ t y)) cx hK (c_E_takers l D cI cJ cO h hN ad n f fa σ t y (by omega) (hs) (by omega) (by omega)) (cwV 2 cx.2.2.2.2 (good_V wm_229 wm_227 wm_228 wm_553 wm_1) rfl rfl rfl (by decide +kernel) ⟨Nat.le_of_ble_eq_true rfl, Nat.le_of_ble_eq_true rfl⟩) gj_rP 0 1 rfl rfl rfl rfl rfl (Nat.le_of_ble_eq_true rfl) d_E_firstPending_22 ⟨Nat.zero_le _, Nat.zero_le _⟩ ?_
      refine gj_istore_n (pc := 25) cx d_E_firstPending_25 rfl (lo' := [(3, .int (nI (eTak n σ t y))), (0, .ref h), (1, .int (nI t)), (2, .int (nI y))]) (by decide) rfl ?_
      have htk : eTak n σ t y < 128 := msk_128 _ hn
      refine gj_iconst (pc := 26) cx d_E_firstPending_26 (v := nI 0) (by decide) ?_
      refine gj_istore (pc := 27) cx d_E_firstPending_27 (lo' := [(4, .int (nI 0)), (3, .int (nI (eTak n σ t y))), (0, .ref h), (1, .int (nI t)), (2, .int (nI y))]) (by decide) rfl ?_
      refine gj_pick (lo' := [(0, .ref h), (1, .int (nI t)), (2, .int (nI y)), (3, .int (nI (eTak n σ t y))), (4, .int (nI 0))]) [2, 3, 4, 1, 0] rfl ?_
      refine gj_forH (G := Gj p l e _ s m _ below meth c _ _ _ _ _) (fun x => ∀ k, k < (t * 7 + y) * 7 + x → ePm n σ k = false) n 29 (fun x => [(0, .ref h), (1, .int (nI t)), (2, .int (nI y)), (3, .int (nI (eTak n σ t y))), (4, .int (nI x))]) (fun x => oW cI cJ cO h hN ad n f fa σ) (fun x hx ihx qx => ?_) 0 (by omega) (fun k hk => qy k (by omega))
      refine gj_iload_n (pc := 29) cx d_E_firstPending_29 rfl (x := nI (eTak n σ t y)) rfl ?_
      refine gj_if_eqN (pc := 30) cx d_E_firstPending_30 (tgt := 71) rfl (by omega) (fun hb3 => ?_) (fun hb3 => ?_)
      · refine gj_iincN (pc := 71) cx d_E_firstPending_71 (k := 2) (d := 1) (lo' := [(2, .int (nI (y + 1))), (0, .ref h), (1, .int (nI t)), (3, .int (nI (eTak n σ t y))), (4, .int (nI x))]) rfl (by decide) (by decide) rfl ?_
        refine gj_goto (pc := 74) cx d_E_firstPending_74 (tgt := 11) rfl ?_
        refine gj_pick (lo' := [(0, .ref h), (1, .int (nI t)), (2, .int (nI (y + 1)))]) [1, 2, 0] rfl ?_
        exact gj_eq rfl (rfl) rfl (rfl) (ihy (by omega) (ePm_0 hn (by omega) qx hb3))
      · refine gj_iload (pc := 33) cx d_E_firstPending_33 (x := nI x) rfl ?_
        refine gj_aload_n (pc := 35) cx d_E_firstPending_35 rfl (x := h) rfl ?_
        refine gj_get (pc := 36) (ci := 1) (C := R_E) (T := T_E) (N := 4) (v := .int (nI n)) cx hK gj_rP in_E d_E_firstPending_36 0 rfl rfl 0 (by decide) (in_WT wm_59) rfl ?_
        refine gj_icmp_geN (pc := 39) cx d_E_firstPending_39 (tgt := 71) rfl (by omega) (by omega) (fun hb4 => ?_) (fun hb4 => ?_)
        · refine gj_iincN (pc := 71) cx d_E_firstPending_71 (k := 2) (d := 1) (lo' := [(2, .int (nI (y + 1))), (0, .ref h), (1, .int (nI t)), (3, .int (nI (eTak n σ t y))), (4, .int (nI x))]) rfl (by decide) (by decide) rfl ?_
          refine gj_goto (pc := 74) cx d_E_firstPending_74 (tgt := 11) rfl ?_
          refine gj_pick (lo' := [(0, .ref h), (1, .int (nI t)), (2, .int (nI (y + 1)))]) [1, 2, 0] rfl ?_
          exact gj_eq rfl (rfl) rfl (rfl) (ihy (by omega) (ePm_x ((show x = n from (by omega)) ▸ qx)))
        · refine gj_iload_n (pc := 42) cx d_E_firstPending_42 rfl (x := nI (eTak n σ t y)) rfl ?_
          refine gj_iload (pc := 43) cx d_E_firstPending_43 (x := nI x) rfl ?_
          refine gj_ishrN (pc := 45) cx d_E_firstPending_45 (by omega) (by omega) ?_
          refine gj_iconst (pc := 46) cx d_E_firstPending_46 (v := nI 1) (by decide) ?_
          refine gj_iand (pc := 47) cx d_E_firstPending_47 ?_
          refine gj_toi (y := nI (eTak n σ t y / 2 ^ x % 2)) (and_1 (Nat.lt_of_le_of_lt (Nat.div_le_self _ _) (by omega))) ?_
          refine gj_iconst (pc := 48) cx d_E_firstPending_48 (v := nI 1) (by decide) ?_
          refine gj_icmp_neN (pc := 49) cx d_E_firstPending_49 (tgt := 65) rfl (by omega) (by omega) (fun hb5 => ?_) (fun hb5 => ?_)
          · refine gj_iincN (pc := 65) cx d_E_firstPending_65 (k := 4) (d := 1) (lo' := [(4, .int (nI (x + 1))), (0, .ref h), (1, .int (nI t)), (2, .int (nI y)), (3, .int (nI (eTak n σ t y)))]) rfl (by decide) (by decide) rfl ?_
            refine gj_goto (pc := 68) cx d_E_firstPending_68 (tgt := 29) rfl ?_
            refine gj_pick (lo' := [(0, .ref h), (1, .int (nI t)), (2, .int (nI y)), (3, .int (nI (eTak n σ t y))), (4, .int (nI (x + 1)))]) [1, 2, 3, 4, 0] rfl ?_
            exact gj_eq rfl (rfl) rfl (rfl) (ihx (by omega) (ePm_s (by omega) (by omega) hn qx hb5))
          · refine gj_iload_n (pc := 52) cx d_E_firstPending_52 rfl (x := nI t) rfl ?_
            refine gj_bipush (pc := 53) cx d_E_firstPending_53 (v := nI 7) (by decide) ?_
            refine gj_imulN (pc := 55) cx d_E_firstPending_55 ?_
            refine gj_iload_n (pc := 56) cx d_E_firstPending_56 rfl (x := nI y) rfl ?_
            refine gj_iaddN (pc := 57) cx d_E_firstPending_57 ?_
            refine gj_bipush (pc := 58) cx d_E_firstPending_58 (v := nI 7) (by decide) ?_
            refine gj_imulN (pc := 60) cx d_E_firstPending_60 ?_
            refine gj_iload (pc := 61) cx d_E_firstPending_61 (x := nI x) rfl ?_
            refine gj_iaddN (pc := 63) cx d_E_firstPending_63 ?_
            exact gj_iretR (pc := 64) cx hr hlk d_E_firstPending_64 (by have e := eFst_at (n := n) (σ := σ) (t := t) (y := y) (x := x) (by omega) (by omega) (by omega) hn qx hb5; rw [if_neg (by omega), e])

set_option maxRecDepth 100000 in
set_option maxHeartbeats 4000000 in
theorem c_E_pending (l : Launch) (D : va_G) (cI cJ cO : ClassId) (h hN : Nat) (ad : Nat → Nat → Nat) (n f fa : Nat) (σ : Nat → NS)  (hn : n ≤ 7) (hs : ∀ x, x < n → nInv n (σ x)) : MRi l y_E_pending (wsM y_E_pending b_E_pending 4 (some .int)) { frames := 4, cells := 0, slots := 0, locals := 99 } D vwK (tyo cI cJ cO) (oW cI cJ cO h hN ad n f fa σ) [.ref h] (nI (ePend n σ)) := by
  refine gj_enterR (own := R_E) (by decide) rfl (Nat.le_of_ble_eq_true rfl) rfl rfl (fun p e s m below meth c cx hr hlk hK => ?_)
  have hKn : va_K D vwK (tyl cI cJ) s := hK.sub [0, 1] rfl
  refine gj_iconst (pc := 0) cx d_E_pending_0 (v := nI 0) (by decide) ?_
  refine gj_istore_n (pc := 1) cx d_E_pending_1 rfl (lo' := [(1, .int (nI 0)), (0, .ref h)]) (by decide) rfl ?_
  refine gj_iconst (pc := 2) cx d_E_pending_2 (v := nI 0) (by decide) ?_
  refine gj_istore_n (pc := 3) cx d_E_pending_3 rfl (lo' := [(2, .int (nI 0)), (1, .int (nI 0)), (0, .ref h)]) (by decide) rfl ?_
  refine gj_pick (lo' := [(0, .ref h), (1, .int (nI 0)), (2, .int (nI 0))]) [2, 1, 0] rfl ?_
  refine gj_forG (G := Gj p l e _ s m _ below meth c _ _ _ _ _) 141 4 (fun t => [(0, .ref h), (1, .int (nI (sumN (fun t => sumN (fun y => cntB (ePd σ t y) n) n) t))), (2, .int (nI t))]) (fun t => oW cI cJ cO h hN ad n f fa σ) (fun t ht iht => ?_) 0 (by omega)
  refine gj_iload_n (pc := 4) cx d_E_pending_4 rfl (x := nI t) rfl ?_
  refine gj_sipush (pc := 5) cx d_E_pending_5 (v := nI 141) (by decide) ?_
  refine gj_icmp_geN (pc := 8) cx d_E_pending_8 (tgt := 45) rfl (by omega) (by omega) (fun hb1 => ?_) (fun hb1 => ?_)
  · refine gj_iload_n (pc := 45) cx d_E_pending_45 rfl (x := nI (sumN (fun t => sumN (fun y => cntB (ePd σ t y) n) n) t)) rfl ?_
    exact gj_iretR (pc := 46) cx hr hlk d_E_pending_46 (by rw [show t = 141 from (by omega)]; rfl)
  · refine gj_iconst (pc := 11) cx d_E_pending_11 (v := nI 0) (by decide) ?_
    refine gj_istore_n (pc := 12) cx d_E_pending_12 rfl (lo' := [(3, .int (nI 0)), (0, .ref h), (1, .int (nI (sumN (fun t => sumN (fun y => cntB (ePd σ t y) n) n) t))), (2, .int (nI t))]) (by decide) rfl ?_
    refine gj_pick (lo' := [(0, .ref h), (1, .int (nI (sumN (fun t => sumN (fun y => cntB (ePd σ t y) n) n) t))), (2, .int (nI t)), (3, .int (nI 0))]) [1, 2, 3, 0] rfl ?_
    refine gj_forG (G := Gj p l e _ s m _ below meth c _ _ _ _ _) n 13 (fun y => [(0, .ref h), (1, .int (nI (sumN (fun t => sumN (fun y => cntB (ePd σ t y) n) n) t + sumN (fun y => cntB (ePd σ t y) n) y))), (2, .int (nI t)), (3, .int (nI y))]) (fun y => oW cI cJ cO h hN ad n f fa σ) (fun y hy ihy => ?_) 0 (by omega)
    refine gj_iload_n (pc := 13) cx d_E_pending_13 rfl (x := nI y) rfl ?_
    refine gj_aload_n (pc := 14) cx d_E_pending_14 rfl (x := h) rfl ?_
    refine gj_get (pc := 15) (ci := 1) (C := R_E) (T := T_E) (N := 4) (v := .int (nI n)) cx hK gj_rP in_E d_E_pending_15 0 rfl rfl 0 (by decide) (in_WT wm_59) rfl ?_
    refine gj_icmp_geN (pc := 18) cx d_E_pending_18 (tgt := 39) rfl (by omega) (by omega) (fun hb2 => ?_) (fun hb2 => ?_)
    · refine gj_iincN (pc := 39) cx d_E_pending_39 (k := 2) (d := 1) (lo' := [(2, .int (nI (t + 1))), (0, .ref h), (1, .int (nI (sumN (fun t => sumN (fun y => cntB (ePd σ t y) n) n) t + sumN (fun y => cntB (ePd σ t y) n) y))), (3, .int (nI y))]) rfl (by decide) (by decide) rfl ?_
      refine gj_goto (pc := 42) cx d_E_pending_42 (tgt := 4) rfl ?_
      refine gj_pick (lo' := [(0, .ref h), (1, .int (nI (sumN (fun t => sumN (fun y => cntB (ePd σ t y) n) n) t + sumN (fun y => cntB (ePd σ t y) n) y))), (2, .int (nI (t + 1)))]) [1, 2, 0] rfl ?_
      exact gj_eq rfl (by simp [sumN, show y = n from (by omega)]) rfl (rfl) (iht (by omega))
    · refine gj_iload_n (pc := 21) cx d_E_pending_21 rfl (x := nI (sumN (fun t => sumN (fun y => cntB (ePd σ t y) n) n) t + sumN (fun y => cntB (ePd σ t y) n) y)) rfl ?_
      refine gj_aload_n (pc := 22) cx d_E_pending_22 rfl (x := h) rfl ?_
      refine gj_iload_n (pc := 23) cx d_E_pending_23 rfl (x := nI t) rfl ?_
      refine gj_iload_n (pc := 24) cx d_E_pending_24 rfl (x := nI y) rfl ?_
      refine gj_callVRi (pc := 25) (As := [.int (nI t), .int (nI y)]) (rest := [.int (nI (sumN (fun t => sumN (fun y => cntB (ePd σ t y) n) n) t + sumN (fun y => cntB (ePd σ t y) n) y))]) (v := nI (eTak n σ t y)) cx hK (c_E_takers l D cI cJ cO h hN ad n f fa σ t y (by omega) (hs) (by omega) (by omega)) (cwV 2 cx.2.2.2.2 (good_V wm_229 wm_227 wm_228 wm_553 wm_1) rfl rfl rfl (by decide +kernel) ⟨Nat.le_of_ble_eq_true rfl, Nat.le_of_ble_eq_true rfl⟩) gj_rP 0 1 rfl rfl rfl rfl rfl (Nat.le_of_ble_eq_true rfl) d_E_pending_25 ⟨Nat.zero_le _, Nat.zero_le _⟩ ?_
      refine gj_callSRi (pc := 28) (As := [.int (nI (eTak n σ t y))]) (rest := [.int (nI (sumN (fun t => sumN (fun y => cntB (ePd σ t y) n) n) t + sumN (fun y => cntB (ePd σ t y) n) y))]) (v := bcI (nI (eTak n σ t y))) cx hK (c_JI_bitCount l D (tyo cI cJ cO) (nI (eTak n σ t y)) ) (va_cwS 1 cx.2.2.2.2 (good_S wm_240 wm_238 wm_239 wm_8) rfl rfl rfl (by decide +kernel) ⟨Nat.le_of_ble_eq_true rfl, Nat.le_of_ble_eq_true rfl⟩) (fun _ _ _ => gj_P0) rfl rfl (Nat.le_of_ble_eq_true rfl) d_E_pending_28 ⟨Nat.zero_le _, Nat.zero_le _⟩ ?_
      refine gj_toi (y := nI (cntB (ePd σ t y) n)) (bc_tak hn) ?_
      refine gj_iaddN (pc := 31) cx d_E_pending_31 ?_
      refine gj_istore_n (pc := 32) cx d_E_pending_32 rfl (lo' := [(1, .int (nI ((sumN (fun t => sumN (fun y => cntB (ePd σ t y) n) n) t + sumN (fun y => cntB (ePd σ t y) n) y) + (cntB (ePd σ t y) n)))), (0, .ref h), (2, .int (nI t)), (3, .int (nI y))]) (by decide) rfl ?_
      refine gj_iincN (pc := 33) cx d_E_pending_33 (k := 3) (d := 1) (lo' := [(3, .int (nI (y + 1))), (1, .int (nI ((sumN (fun t => sumN (fun y => cntB (ePd σ t y) n) n) t + sumN (fun y => cntB (ePd σ t y) n) y) + (cntB (ePd σ t y) n)))), (0, .ref h), (2, .int (nI t))]) rfl (by decide) (by decide) rfl ?_
      refine gj_goto (pc := 36) cx d_E_pending_36 (tgt := 13) rfl ?_
      refine gj_pick (lo' := [(0, .ref h), (1, .int (nI ((sumN (fun t => sumN (fun y => cntB (ePd σ t y) n) n) t + sumN (fun y => cntB (ePd σ t y) n) y) + (cntB (ePd σ t y) n)))), (2, .int (nI t)), (3, .int (nI (y + 1)))]) [2, 1, 3, 0] rfl ?_
      exact gj_eq rfl (by simp [sumN, Nat.add_assoc]) rfl (rfl) (ihy (by omega))
end
section
/-! A node's numbers stay within their bounds -/
theorem nInv_down {n : Nat} {u : NS} (h : nInv n u) : nInv n (nDown u) :=
  ⟨⟨by show 1 ≤ 2; omega, by show 0 ≤ 9; omega, h.1.2.2.1, h.1.2.2.2.1, h.1.2.2.2.2⟩, fun _ _ z => absurd rfl z, h.2.2⟩
theorem nInv_wr {n t : Nat} {u : NS} {p : Int64} (h : nInv n u) (ht : t ≠ 140) : nInv n (nWr u t p) := by
  unfold nWr
  split
  · exact nInv_down h
  · refine ⟨⟨h.1.1, by have := h.1.2.1; show nFu u - 1 ≤ 9; omega, h.1.2.2.1, h.1.2.2.2.1, h.1.2.2.2.2⟩, h.2.1, ?_⟩
    have e : va_up (nSa u) t p 140 = nSa u 140 := if_neg (fun z => ht z.symm)
    show va_up (nSa u) t p 140 = -1 ∨ ∀ c, c < n → digN (va_up (nSa u) t p 140) c ≤ 5
    rw [e]
    exact h.2.2
theorem nInv_to {n : Nat} {u : NS} {g : Nat → Int64} (h : nInv n u) : nInv n (sTo u g) := ⟨h.1, h.2.1, h.2.2⟩
theorem nInv_ac {n i : Nat} {u : NS} {p : Int64} (h : nInv n u) (hp : payN p < n) : nInv n (sAc u (va_up (nAc u) i p)) := ⟨h.1, nAc_up h.2.1 hp, h.2.2⟩
theorem nInv_step {n : Nat} {u : NS} (hn : n ≤ 7) (h : nInv n u) (hL : ¬ nLeast u n = n) (h1 : ¬ nFu u = 1) : nInv n (nStep u n) := by
  refine ⟨nOk_step h.1 hL h1, nAc_step h.2.1 h1, ?_⟩
  have hl := nLeast_lt hL
  have hc := nNext_cn (nLeast_sat hL)
  have e : nSa (nStep u n) 140 = nSa u 140 := by
    unfold nStep nWr
    rw [if_neg h1]
    show va_up (nSa u) _ _ 140 = _
    exact if_neg (by omega)
  rw [e]
  exact h.2.2
theorem nInv_apply {n : Nat} (hn : n ≤ 7) : ∀ (m k : Nat) {u : NS}, nInv n u → nInv n (nApply n m k u).2
  | 0, _, _, h => h
  | m + 1, k, u, h => by
    by_cases hL : nLeast u n = n
    · rw [nApply_end hL]; exact h
    · by_cases h1 : nFu u = 1
      · rw [nApply_fall (by omega) hL h1]; exact nInv_down h
      · have := nApply_step (k := m + 1) (i := 0) (by omega) hL h1
        have e : nApply n (m + 1) k u = nApply n m (k + 1) (nStep u n) := by simp [nApply, hL, h1, nStep]
        rw [e]
        exact nInv_apply hn m (k + 1) (nInv_step hn h hL h1)
theorem nInv_forget {n i : Nat} {u : NS} (h : nInv n u) : nInv n (nForget u n i) := by
  refine ⟨h.1, h.2.1, ?_⟩
  have e : nSa (nForget u n i) 140 = nSa u 140 := if_neg (by omega)
  rw [e]
  exact h.2.2
theorem nInv_forgets {n c k : Nat} : ∀ (m : Nat) {u : NS}, nInv n u → nInv n (nForgets n c k m u)
  | 0, _, h => h
  | m + 1, _, h => nInv_forget (nInv_forgets m h)
theorem nInv_freeC {n c : Nat} {d : Int64} {u : NS} (h : nInv n u) (hd : digN d c ≤ 5) : nInv n (nFreeC n d c u) := by
  have h2 := nInv_forgets (n := n) (c := c) (k := nFr u c) (digN d c - nFr u c) h
  exact ⟨nOk_freeC h.1 hd, h2.2.1, h2.2.2⟩
theorem nInv_freeTo {n : Nat} {d : Int64} {u : NS} (h : nInv n u) : ∀ k, (∀ c, c < k → digN d c ≤ 5) → nInv n (nFreeTo n d k u)
  | 0, _ => h
  | k + 1, hd => nInv_freeC (nInv_freeTo h k (fun c hc => hd c (by omega))) (hd k (by omega))
theorem nInv_free {n f : Nat} {u : NS} (h : nInv n u) : nInv n (nFree u n f) := by
  unfold nFree
  split
  · exact h
  · rename_i hh
    exact nInv_freeTo h n (h.2.2.resolve_left (fun z => hh (Or.inl z)))
theorem nInv_take {n f t y : Nat} {u : NS} {p : Int64} (hn : n ≤ 7) (h : nInv n u) (hp : t = 140 ∨ payN p < n) : nInv n (nTake u n f t y p).2 := by
  by_cases h0 : t / 35 = 0
  · rw [nTake_0 h0]; exact nInv_wr h (by omega)
  · by_cases h4 : t / 35 = 4
    · rw [nTake_4 rfl h4]; exact nInv_free (nInv_to h)
    · have hv := nInv_to (g := va_up (nTo u) (t * 7 + y) p) h
      generalize hvv : sTo u (va_up (nTo u) (t * 7 + y) p) = v at hv
      cases hr : nRdy v n f (t / 35) (t % 35) p with
      | true =>
        by_cases h1 : nFu v = 1
        · rw [nTake_7 hvv.symm h0 h4 hr h1]; exact nInv_down hv
        · rw [nTake_3 hvv.symm h0 h4 (Or.inl ⟨hr, h1, rfl⟩)]
          refine nInv_apply hn _ _ ?_
          split
          · exact nInv_ac (nInv_wr hv (by omega)) (hp.resolve_left (by omega))
          · exact nInv_wr hv (by omega)
      | false =>
        rw [nTake_3 hvv.symm h0 h4 (Or.inr ⟨hr, rfl⟩)]
        refine nInv_apply hn _ _ ?_
        split
        · exact nInv_ac hv (hp.resolve_left (by omega))
        · exact hv
theorem nInv_recv {n f t y : Nat} {u : NS} {p : Int64} (hn : n ≤ 7) (h : nInv n u) : nInv n (nRecv u n f t y p).2 := by
  unfold nRecv
  split
  · exact h
  · rename_i hw
    split
    · exact nInv_take hn h (nWf_pay (by simpa using hw))
    · exact h
theorem digs_dig {f : Nat → Nat} (hf : ∀ c, f c < 8) : ∀ {n c : Nat}, c < n → digs f n / 2 ^ (3 * c) % 8 = f c
  | n + 1, c, hc => by
    have hl := digs_lt hf n
    simp only [digs]
    rcases Nat.lt_or_ge c n with h | h
    · have e : f n * 2 ^ (3 * n) = 2 ^ (3 * c) * (f n * 2 ^ (3 * (n - c))) := by
        rw [Nat.mul_left_comm, ← Nat.pow_add, show 3 * c + 3 * (n - c) = 3 * n by omega]
      rw [e, Nat.add_mul_div_left _ _ (Nat.two_pow_pos _), Nat.add_mod, digs_dig hf h]
      have e2 : f n * 2 ^ (3 * (n - c)) % 8 = 0 := by
        rw [show 3 * (n - c) = 3 * (n - c - 1) + 3 by omega, Nat.pow_add, ← Nat.mul_assoc]
        exact Nat.mul_mod_left _ 8
      rw [e2]
      have := hf c
      omega
    · have e : c = n := by omega
      subst e
      rw [Nat.mul_comm, Nat.add_mul_div_left _ _ (Nat.two_pow_pos _), Nat.div_eq_of_lt hl]
      have := hf c
      omega
theorem digN_digs {f : Nat → Nat} (hf : ∀ c, f c < 8) {n c : Nat} (hn : n ≤ 7) (hc : c < n) : digN (lN (digs f n)) c = f c := by
  unfold digN
  rw [px_lN (by have := digs_21 hf hn; omega), digs_dig hf hc]
theorem nInv_mark {n : Nat} {u : NS} (hn : n ≤ 7) (h : nInv n u) : nInv n (nMarkW u n).2 := by
  unfold nMarkW
  split
  · exact nInv_down h
  · rename_i h1
    show nInv n (nWr u 140 (lN (nMark u n)))
    unfold nWr
    rw [if_neg h1]
    refine ⟨⟨h.1.1, by have := h.1.2.1; show nFu u - 1 ≤ 9; omega, h.1.2.2.1, h.1.2.2.2.1, h.1.2.2.2.2⟩, h.2.1, Or.inr (fun c hc => ?_)⟩
    have e : va_up (nSa u) 140 (lN (nMark u n)) 140 = lN (nMark u n) := if_pos rfl
    show digN (va_up (nSa u) 140 (lN (nMark u n)) 140) c ≤ 5
    rw [e, show nMark u n = digs (nCn u) n from rfl, digN_digs (fun c => by have := h.1.2.2.2.1 c; omega) hn hc]
    exact h.1.2.2.2.1 c
theorem nInv_submit {n me pay amt : Nat} {u : NS} (hme : me < 7) (h : nInv n u) : nInv n (nSubmit u me n pay amt).2 := by
  unfold nSubmit
  split
  · exact h
  · rename_i h5
    split
    · exact h
    · split
      · exact nInv_down h
      · have hw := nInv_wr (n := n) (t := me * 5 + nSu u) (p := lN (pay + 8 * amt + 8192 * nNeeds u me n)) h (by omega)
        exact ⟨⟨hw.1.1, hw.1.2.1, by show nSu u + 1 ≤ 5; omega, hw.1.2.2.2.1, hw.1.2.2.2.2⟩, hw.2.1, hw.2.2⟩
/-! the outer class's writers -/
def eCorrupt (n f fa : Nat) (σ : Nat → NS) (x : Int32) : Bool × Nat × (Nat → NS) := if eCor n σ x = true ∧ fa < f then (true, fa + 1, va_up σ (xN x) (sCo (σ (xN x)) 2)) else (false, fa, σ)
def eSubmit (n : Nat) (σ : Nat → NS) (x y a : Int32) : Int32 × (Nat → NS) :=
  if eUp n σ x = true ∧ isN n y = true ∧ ¬ y = x ∧ ¬ a < nI 1 ∧ a ≤ nI 1023 then ((nSubmit (σ (xN x)) (xN x) n (xN y) (xN a)).1, va_up σ (xN x) (nSubmit (σ (xN x)) (xN x) n (xN y) (xN a)).2) else (-1, σ)
def eRecv (n f : Nat) (σ : Nat → NS) (x t y : Nat) (p : Int64) : Int32 × (Nat → NS) := ((nRecv (σ x) n f t y p).1, va_up σ x (nRecv (σ x) n f t y p).2)
def eForge (n f : Nat) (σ : Nat → NS) (y x hd : Int32) (p : Int64) : Int32 × (Nat → NS) :=
  if eState n σ y = nI 2 ∧ eUp n σ x = true then (match tpc n (hd &&& nI 7) ((hd >>> (nI 3 &&& 31)) &&& nI 7) (hd >>> (nI 6 &&& 31)) with | some t => eRecv n f σ (xN x) t (xN y) p | none => (-3, σ)) else (-1, σ)
def eCarry (n f : Nat) (σ : Nat → NS) (y x k b q : Int32) : Int32 × (Nat → NS) :=
  if eCor n σ y = true ∧ eUp n σ x = true then (match tpc n k b q with | some t => (if nSa (σ (xN y)) t = -1 then (-2, σ) else eRecv n f σ (xN x) t (xN y) (nSa (σ (xN y)) t)) | none => (-2, σ)) else (-1, σ)
def ePumpC (n f : Nat) (σ : Nat → NS) (k : Int32) : Int32 × (Nat → NS) := if ¬ k < nI 1 ∧ k ≤ nI 8 then (nI (ePump n f (xN k) 0 σ).1, (ePump n f (xN k) 0 σ).2) else (-1, σ)
def eCrash (n : Nat) (σ : Nat → NS) (x : Int32) : Bool × (Nat → NS) := if eUp n σ x = true then (true, va_up σ (xN x) (nDown (σ (xN x)))) else (false, σ)
def eRest (n : Nat) (σ : Nat → NS) (x : Int32) : Bool × (Nat → NS) := if eState n σ x = nI 1 then (true, va_up σ (xN x) (sCo (σ (xN x)) 0)) else (false, σ)
def eFuse (n : Nat) (σ : Nat → NS) (x k : Int32) : Bool × (Nat → NS) := if eUp n σ x = true ∧ ¬ k < 0 ∧ k ≤ nI 9 then (true, va_up σ (xN x) (sFu (σ (xN x)) (xN k))) else (false, σ)
def eMark (n : Nat) (σ : Nat → NS) (x : Int32) : Int32 × (Nat → NS) := if eUp n σ x = true then ((nMarkW (σ (xN x)) n).1, va_up σ (xN x) (nMarkW (σ (xN x)) n).2) else (-1, σ)
theorem eInv_up {n x : Nat} {σ : Nat → NS} {u : NS} (hs : ∀ x, x < n → nInv n (σ x)) (hu : nInv n u) : ∀ y, y < n → nInv n (va_up σ x u y) := by
  intro y hy
  unfold va_up
  split
  · exact hu
  · exact hs y hy
theorem ePump_end {n f m k : Nat} {σ : Nat → NS} (h : eFst n σ = 6909) : ePump n f m k σ = (k, σ) := by
  cases m with
  | zero => rfl
  | succ m => simp [ePump, h]
theorem ePump_step {n f m i : Nat} {σ : Nat → NS} (hi : i < m) (h : ¬ eFst n σ = 6909) : ePump n f (m - i) i σ = ePump n f (m - (i + 1)) (i + 1) (va_up σ (eFst n σ % 7) (nRecv (σ (eFst n σ % 7)) n f (eFst n σ / 49) (eFst n σ / 7 % 7) (nSa (σ (eFst n σ / 7 % 7)) (eFst n σ / 49))).2) := by
  obtain ⟨j, hj⟩ : ∃ j, m - i = j + 1 := ⟨m - i - 1, by omega⟩
  rw [hj, show m - (i + 1) = j by omega]
  simp [ePump, h]
theorem eFst_lt {n : Nat} {σ : Nat → NS} (h : ¬ eFst n σ = 6909) : eFst n σ < 6909 ∧ eFst n σ / 7 % 7 < n ∧ eFst n σ % 7 < n := by
  have h1 := fstB_le (P := ePm n σ) 6909 0
  have h2 := fstB_sat (P := ePm n σ) 6909 0 (by unfold eFst at h; omega)
  simp only [ePm, Bool.and_eq_true, decide_eq_true_eq] at h2
  unfold eFst at h ⊢
  exact ⟨by omega, h2.1, h2.2.1⟩
end
section
/-! Contracts of the outer class, its writers, laid by wip/gen/m_outer.py -/
set_option maxRecDepth 100000 in
set_option maxHeartbeats 4000000 in
theorem c_E_crash (l : Launch) (D : va_G) (cI cJ cO : ClassId) (h hN : Nat) (ad : Nat → Nat → Nat) (n f fa : Nat) (σ : Nat → NS) (nd : Int32) (hn : n ≤ 7) (hs : ∀ x, x < n → nInv n (σ x)) (sz : Nat) : MWi l y_E_crash (wsM y_E_crash b_E_crash 2 (some .boolean)) { frames := 2, cells := 0, slots := 0, locals := 44 } D vwK (tyo cI cJ cO) (oW cI cJ cO h hN ad n f fa σ) (oW cI cJ cO h hN ad n f fa ((eCrash n σ nd).2)) sz [.ref h, .int nd] (bI ((eCrash n σ nd).1)) := by
  refine gj_enterW (own := R_E) (by decide) rfl (Nat.le_of_ble_eq_true rfl) rfl rfl (fun p e s m below meth c cx hr hlk hK hsz => ?_)
  have hA : ∀ q, s.heap.size ≤ q → va_A (oW cI cJ cO h hN ad n f fa σ) sz q := fun q h => Or.inr (hsz ▸ h)
  have hKn : va_K D vwK (tyl cI cJ) s := hK.sub [0, 1] rfl
  refine gj_aload_n (pc := 0) cx d_E_crash_0 rfl (x := h) rfl ?_
  refine gj_iload_n (pc := 1) cx d_E_crash_1 rfl (x := nd) rfl ?_
  refine gj_callVRi (pc := 2) (As := [.int nd]) (rest := []) (v := bI (eUp n σ nd)) cx hK (c_E_isUp l D cI cJ cO h hN ad n f fa σ nd (by omega) (hs)) (cwV 1 cx.2.2.2.2 (good_V wm_73 wm_71 wm_72 wm_532 wm_1) rfl rfl rfl (by decide +kernel) ⟨Nat.le_of_ble_eq_true rfl, Nat.le_of_ble_eq_true rfl⟩) gj_wP 0 1 rfl rfl rfl rfl rfl (Nat.le_of_ble_eq_true rfl) d_E_crash_2 ⟨Nat.zero_le _, Nat.zero_le _⟩ ?_
  refine gj_if_neB (pc := 5) cx d_E_crash_5 (tgt := 10) rfl (fun hb1 => ?_) (fun hb1 => ?_)
  · obtain ⟨x, hx, rfl, hxu⟩ := eUp_of hn hb1
    refine gj_aload_n (pc := 10) cx d_E_crash_10 rfl (x := h) rfl ?_
    refine gj_get (pc := 11) (ci := 1) (C := R_E) (T := T_E) (N := 4) (v := .ref hN) cx hK gj_wP in_E d_E_crash_11 0 rfl rfl 2 (by decide) (in_WT wm_61) rfl ?_
    refine gj_iload_n (pc := 14) cx d_E_crash_14 rfl (x := nI x) rfl ?_
    refine gj_aald (pc := 15) (i := x) (x := ad x 0) cx hK gj_wP d_E_crash_15 1 2 rfl rfl (by omega) (by omega) rfl ?_
    refine gj_callVWv (pc := 16) (As := []) (rest := []) (ws' := oW cI cJ cO h hN ad n f fa (va_up σ x (nDown (σ x)))) cx hKn hA (fun sz => c_N_goDown l D cI cJ (ad x) x n f (σ x)   sz) (cwV 0 cx.2.2.2.2 (good_V wm_114 wm_248 wm_112 wm_113 wm_3) rfl rfl rfl (by decide +kernel) ⟨Nat.le_of_ble_eq_true rfl, Nat.le_of_ble_eq_true rfl⟩) (oW_J (by omega) _) 0 0 rfl rfl rfl rfl rfl (Nat.le_of_ble_eq_true rfl) d_E_crash_16 ⟨Nat.zero_le _, Nat.zero_le _⟩ ?_
    refine gj_iconst (pc := 19) cx d_E_crash_19 (v := nI 1) (by decide) ?_
    exact gj_zretW (pc := 20) cx hr hlk d_E_crash_20 rfl (by rw [eCrash, if_pos hb1, xN_nI (by omega)] <;> rfl) (by rw [eCrash, if_pos hb1, xN_nI (by omega)] <;> rfl)
  · refine gj_iconst (pc := 8) cx d_E_crash_8 (v := nI 0) (by decide) ?_
    exact gj_zretW (pc := 9) cx hr hlk d_E_crash_9 rfl (by rw [eCrash, if_neg (by rw [hb1]; decide)] <;> rfl) (by rw [eCrash, if_neg (by rw [hb1]; decide)] <;> rfl)

set_option maxRecDepth 100000 in
set_option maxHeartbeats 4000000 in
theorem c_E_restart (l : Launch) (D : va_G) (cI cJ cO : ClassId) (h hN : Nat) (ad : Nat → Nat → Nat) (n f fa : Nat) (σ : Nat → NS) (nd : Int32) (hn : n ≤ 7) (hs : ∀ x, x < n → nInv n (σ x)) (sz : Nat) : MWi l y_E_restart (wsM y_E_restart b_E_restart 2 (some .boolean)) { frames := 2, cells := 0, slots := 0, locals := 42 } D vwK (tyo cI cJ cO) (oW cI cJ cO h hN ad n f fa σ) (oW cI cJ cO h hN ad n f fa ((eRest n σ nd).2)) sz [.ref h, .int nd] (bI ((eRest n σ nd).1)) := by
  refine gj_enterW (own := R_E) (by decide) rfl (Nat.le_of_ble_eq_true rfl) rfl rfl (fun p e s m below meth c cx hr hlk hK hsz => ?_)
  have hA : ∀ q, s.heap.size ≤ q → va_A (oW cI cJ cO h hN ad n f fa σ) sz q := fun q h => Or.inr (hsz ▸ h)
  have hKn : va_K D vwK (tyl cI cJ) s := hK.sub [0, 1] rfl
  refine gj_aload_n (pc := 0) cx d_E_restart_0 rfl (x := h) rfl ?_
  refine gj_iload_n (pc := 1) cx d_E_restart_1 rfl (x := nd) rfl ?_
  refine gj_callVRi (pc := 2) (As := [.int nd]) (rest := []) (v := eState n σ nd) cx hK (c_E_state l D cI cJ cO h hN ad n f fa σ nd (by omega) (hs)) (cwV 1 cx.2.2.2.2 (good_V wm_134 wm_131 wm_132 wm_133 wm_1) rfl rfl rfl (by decide +kernel) ⟨Nat.le_of_ble_eq_true rfl, Nat.le_of_ble_eq_true rfl⟩) gj_wP 0 1 rfl rfl rfl rfl rfl (Nat.le_of_ble_eq_true rfl) d_E_restart_2 ⟨Nat.zero_le _, Nat.zero_le _⟩ ?_
  refine gj_iconst (pc := 5) cx d_E_restart_5 (v := nI 1) (by decide) ?_
  refine gj_icmp_eq (pc := 6) cx d_E_restart_6 (tgt := 11) rfl (fun hb1 => ?_) (fun hb1 => ?_)
  · obtain ⟨x, hx, rfl, hxs⟩ := eState_of (c := 1) hn (by omega) (fun y hy => (hs y hy).1.1) hb1
    refine gj_aload_n (pc := 11) cx d_E_restart_11 rfl (x := h) rfl ?_
    refine gj_get (pc := 12) (ci := 1) (C := R_E) (T := T_E) (N := 4) (v := .ref hN) cx hK gj_wP in_E d_E_restart_12 0 rfl rfl 2 (by decide) (in_WT wm_61) rfl ?_
    refine gj_iload_n (pc := 15) cx d_E_restart_15 rfl (x := nI x) rfl ?_
    refine gj_aald (pc := 16) (i := x) (x := ad x 0) cx hK gj_wP d_E_restart_16 1 2 rfl rfl (by omega) (by omega) rfl ?_
    refine gj_callVWv (pc := 17) (As := []) (rest := []) (ws' := oW cI cJ cO h hN ad n f fa (va_up σ x (sCo (σ x) 0))) cx hKn hA (fun sz => c_N_comeUp l D cI cJ (ad x) x n f (σ x)   sz) (cwV 0 cx.2.2.2.2 (good_V wm_256 wm_253 wm_254 wm_255 wm_3) rfl rfl rfl (by decide +kernel) ⟨Nat.le_of_ble_eq_true rfl, Nat.le_of_ble_eq_true rfl⟩) (oW_J (by omega) _) 0 0 rfl rfl rfl rfl rfl (Nat.le_of_ble_eq_true rfl) d_E_restart_17 ⟨Nat.zero_le _, Nat.zero_le _⟩ ?_
    refine gj_iconst (pc := 20) cx d_E_restart_20 (v := nI 1) (by decide) ?_
    exact gj_zretW (pc := 21) cx hr hlk d_E_restart_21 rfl (by rw [eRest, if_pos hb1, xN_nI (by omega)] <;> rfl) (by rw [eRest, if_pos hb1, xN_nI (by omega)] <;> rfl)
  · refine gj_iconst (pc := 9) cx d_E_restart_9 (v := nI 0) (by decide) ?_
    exact gj_zretW (pc := 10) cx hr hlk d_E_restart_10 rfl (by rw [eRest, if_neg hb1] <;> rfl) (by rw [eRest, if_neg hb1] <;> rfl)

set_option maxRecDepth 100000 in
set_option maxHeartbeats 4000000 in
theorem c_E_fuse (l : Launch) (D : va_G) (cI cJ cO : ClassId) (h hN : Nat) (ad : Nat → Nat → Nat) (n f fa : Nat) (σ : Nat → NS) (nd : Int32) (kd : Int32) (hn : n ≤ 7) (hs : ∀ x, x < n → nInv n (σ x)) (sz : Nat) : MWi l y_E_fuse (wsM y_E_fuse b_E_fuse 3 (some .boolean)) { frames := 2, cells := 0, slots := 0, locals := 42 } D vwK (tyo cI cJ cO) (oW cI cJ cO h hN ad n f fa σ) (oW cI cJ cO h hN ad n f fa ((eFuse n σ nd kd).2)) sz [.ref h, .int nd, .int kd] (bI ((eFuse n σ nd kd).1)) := by
  refine gj_enterW (own := R_E) (by decide) rfl (Nat.le_of_ble_eq_true rfl) rfl rfl (fun p e s m below meth c cx hr hlk hK hsz => ?_)
  have hA : ∀ q, s.heap.size ≤ q → va_A (oW cI cJ cO h hN ad n f fa σ) sz q := fun q h => Or.inr (hsz ▸ h)
  have hKn : va_K D vwK (tyl cI cJ) s := hK.sub [0, 1] rfl
  refine gj_aload_n (pc := 0) cx d_E_fuse_0 rfl (x := h) rfl ?_
  refine gj_iload_n (pc := 1) cx d_E_fuse_1 rfl (x := nd) rfl ?_
  refine gj_callVRi (pc := 2) (As := [.int nd]) (rest := []) (v := bI (eUp n σ nd)) cx hK (c_E_isUp l D cI cJ cO h hN ad n f fa σ nd (by omega) (hs)) (cwV 1 cx.2.2.2.2 (good_V wm_73 wm_71 wm_72 wm_532 wm_1) rfl rfl rfl (by decide +kernel) ⟨Nat.le_of_ble_eq_true rfl, Nat.le_of_ble_eq_true rfl⟩) gj_wP 0 1 rfl rfl rfl rfl rfl (Nat.le_of_ble_eq_true rfl) d_E_fuse_2 ⟨Nat.zero_le _, Nat.zero_le _⟩ ?_
  refine gj_if_eqB (pc := 5) cx d_E_fuse_5 (tgt := 18) rfl (fun hb1 => ?_) (fun hb1 => ?_)
  · refine gj_iconst (pc := 18) cx d_E_fuse_18 (v := nI 0) (by decide) ?_
    exact gj_zretW (pc := 19) cx hr hlk d_E_fuse_19 rfl (by rw [eFuse, if_neg (fun z => by rw [hb1] at z; cases z.1)] <;> rfl) (by rw [eFuse, if_neg (fun z => by rw [hb1] at z; cases z.1)] <;> rfl)
  · refine gj_iload_n (pc := 8) cx d_E_fuse_8 rfl (x := kd) rfl ?_
    refine gj_if_lt (pc := 9) cx d_E_fuse_9 (tgt := 18) rfl (fun hb2 => ?_) (fun hb2 => ?_)
    · refine gj_iconst (pc := 18) cx d_E_fuse_18 (v := nI 0) (by decide) ?_
      exact gj_zretW (pc := 19) cx hr hlk d_E_fuse_19 rfl (by rw [eFuse, if_neg (fun z => z.2.1 hb2)] <;> rfl) (by rw [eFuse, if_neg (fun z => z.2.1 hb2)] <;> rfl)
    · refine gj_iload_n (pc := 12) cx d_E_fuse_12 rfl (x := kd) rfl ?_
      refine gj_bipush (pc := 13) cx d_E_fuse_13 (v := nI 9) (by decide) ?_
      refine gj_icmp_le (pc := 15) cx d_E_fuse_15 (tgt := 20) rfl (fun hb3 => ?_) (fun hb3 => ?_)
      · obtain ⟨x, hx, rfl, hxu⟩ := eUp_of hn hb1
        obtain ⟨k, hk, rfl⟩ := nI_of2 (M := 9) (n := 9) (by decide) hb2 hb3
        refine gj_aload_n (pc := 20) cx d_E_fuse_20 rfl (x := h) rfl ?_
        refine gj_get (pc := 21) (ci := 1) (C := R_E) (T := T_E) (N := 4) (v := .ref hN) cx hK gj_wP in_E d_E_fuse_21 0 rfl rfl 2 (by decide) (in_WT wm_61) rfl ?_
        refine gj_iload_n (pc := 24) cx d_E_fuse_24 rfl (x := nI x) rfl ?_
        refine gj_aald (pc := 25) (i := x) (x := ad x 0) cx hK gj_wP d_E_fuse_25 1 2 rfl rfl (by omega) (by omega) rfl ?_
        refine gj_iload_n (pc := 26) cx d_E_fuse_26 rfl (x := nI k) rfl ?_
        refine gj_callVWv (pc := 27) (As := [.int (nI k)]) (rest := []) (ws' := oW cI cJ cO h hN ad n f fa (va_up σ x (sFu (σ x) k))) cx hKn hA (fun sz => c_N_setFuse l D cI cJ (ad x) x n f (σ x) k  sz) (cwV 1 cx.2.2.2.2 (good_V wm_264 wm_261 wm_262 wm_263 wm_3) rfl rfl rfl (by decide +kernel) ⟨Nat.le_of_ble_eq_true rfl, Nat.le_of_ble_eq_true rfl⟩) (oW_J (by omega) _) 0 0 rfl rfl rfl rfl rfl (Nat.le_of_ble_eq_true rfl) d_E_fuse_27 ⟨Nat.zero_le _, Nat.zero_le _⟩ ?_
        refine gj_iconst (pc := 30) cx d_E_fuse_30 (v := nI 1) (by decide) ?_
        exact gj_zretW (pc := 31) cx hr hlk d_E_fuse_31 rfl (by rw [eFuse, if_pos ⟨hb1, hb2, hb3⟩, xN_nI (by omega), xN_nI (by omega)] <;> rfl) (by rw [eFuse, if_pos ⟨hb1, hb2, hb3⟩, xN_nI (by omega), xN_nI (by omega)] <;> rfl)
      · refine gj_iconst (pc := 18) cx d_E_fuse_18 (v := nI 0) (by decide) ?_
        exact gj_zretW (pc := 19) cx hr hlk d_E_fuse_19 rfl (by rw [eFuse, if_neg (fun z => hb3 z.2.2)] <;> rfl) (by rw [eFuse, if_neg (fun z => hb3 z.2.2)] <;> rfl)

set_option maxRecDepth 100000 in
set_option maxHeartbeats 4000000 in
theorem c_E_mark (l : Launch) (D : va_G) (cI cJ cO : ClassId) (h hN : Nat) (ad : Nat → Nat → Nat) (n f fa : Nat) (σ : Nat → NS) (nd : Int32) (hn : n ≤ 7) (hs : ∀ x, x < n → nInv n (σ x)) (sz : Nat) : MWi l y_E_mark (wsM y_E_mark b_E_mark 2 (some .int)) { frames := 4, cells := 0, slots := 0, locals := 90 } D vwK (tyo cI cJ cO) (oW cI cJ cO h hN ad n f fa σ) (oW cI cJ cO h hN ad n f fa ((eMark n σ nd).2)) sz [.ref h, .int nd] ((eMark n σ nd).1) := by
  refine gj_enterW (own := R_E) (by decide) rfl (Nat.le_of_ble_eq_true rfl) rfl rfl (fun p e s m below meth c cx hr hlk hK hsz => ?_)
  have hA : ∀ q, s.heap.size ≤ q → va_A (oW cI cJ cO h hN ad n f fa σ) sz q := fun q h => Or.inr (hsz ▸ h)
  have hKn : va_K D vwK (tyl cI cJ) s := hK.sub [0, 1] rfl
  refine gj_aload_n (pc := 0) cx d_E_mark_0 rfl (x := h) rfl ?_
  refine gj_iload_n (pc := 1) cx d_E_mark_1 rfl (x := nd) rfl ?_
  refine gj_callVRi (pc := 2) (As := [.int nd]) (rest := []) (v := bI (eUp n σ nd)) cx hK (c_E_isUp l D cI cJ cO h hN ad n f fa σ nd (by omega) (hs)) (cwV 1 cx.2.2.2.2 (good_V wm_73 wm_71 wm_72 wm_532 wm_1) rfl rfl rfl (by decide +kernel) ⟨Nat.le_of_ble_eq_true rfl, Nat.le_of_ble_eq_true rfl⟩) gj_wP 0 1 rfl rfl rfl rfl rfl (Nat.le_of_ble_eq_true rfl) d_E_mark_2 ⟨Nat.zero_le _, Nat.zero_le _⟩ ?_
  refine gj_if_eqB (pc := 5) cx d_E_mark_5 (tgt := 20) rfl (fun hb1 => ?_) (fun hb1 => ?_)
  · refine gj_iconst (pc := 20) cx d_E_mark_20 (v := (-1)) (by decide) ?_
    exact gj_iretW (pc := 21) cx hr hlk d_E_mark_21 (by rw [eMark, if_neg (by rw [hb1]; decide)] <;> rfl) (by rw [eMark, if_neg (by rw [hb1]; decide)] <;> rfl)
  · obtain ⟨x, hx, rfl, hxu⟩ := eUp_of hn hb1
    refine gj_aload_n (pc := 8) cx d_E_mark_8 rfl (x := h) rfl ?_
    refine gj_get (pc := 9) (ci := 1) (C := R_E) (T := T_E) (N := 4) (v := .ref hN) cx hK gj_wP in_E d_E_mark_9 0 rfl rfl 2 (by decide) (in_WT wm_61) rfl ?_
    refine gj_iload_n (pc := 12) cx d_E_mark_12 rfl (x := nI x) rfl ?_
    refine gj_aald (pc := 13) (i := x) (x := ad x 0) cx hK gj_wP d_E_mark_13 1 2 rfl rfl (by omega) (by omega) rfl ?_
    refine gj_callVWi (pc := 14) (As := []) (rest := []) (v := (nMarkW (σ x) n).1) (ws' := oW cI cJ cO h hN ad n f fa (va_up σ x ((nMarkW (σ x) n).2))) cx hKn hA (fun sz => c_N_writeMark l D cI cJ (ad x) x n f (σ x)  ((hs x (by omega)).1) (by omega) sz) (cwV 0 cx.2.2.2.2 (good_V wm_272 wm_269 wm_270 wm_271 wm_3) rfl rfl rfl (by decide +kernel) ⟨Nat.le_of_ble_eq_true rfl, Nat.le_of_ble_eq_true rfl⟩) (oW_J (by omega) _) 0 0 rfl rfl rfl rfl rfl (Nat.le_of_ble_eq_true rfl) d_E_mark_14 ⟨Nat.zero_le _, Nat.zero_le _⟩ ?_
    refine gj_goto (pc := 17) cx d_E_mark_17 (tgt := 21) rfl ?_
    exact gj_iretW (pc := 21) cx hr hlk d_E_mark_21 (by rw [eMark, if_pos hb1, xN_nI (by omega)] <;> rfl) (by rw [eMark, if_pos hb1, xN_nI (by omega)] <;> rfl)

set_option maxRecDepth 100000 in
set_option maxHeartbeats 4000000 in
theorem c_E_corrupt (l : Launch) (D : va_G) (cI cJ cO : ClassId) (h hN : Nat) (ad : Nat → Nat → Nat) (n f fa : Nat) (σ : Nat → NS) (nd : Int32) (hn : n ≤ 7) (hs : ∀ x, x < n → nInv n (σ x)) (hf : f ≤ 7) (hfa : fa ≤ 7) (sz : Nat) : MWi l y_E_corrupt (wsM y_E_corrupt b_E_corrupt 2 (some .boolean)) { frames := 2, cells := 0, slots := 0, locals := 42 } D vwK (tyo cI cJ cO) (oW cI cJ cO h hN ad n f fa σ) (oW cI cJ cO h hN ad n f ((eCorrupt n f fa σ nd).2.1) ((eCorrupt n f fa σ nd).2.2)) sz [.ref h, .int nd] (bI ((eCorrupt n f fa σ nd).1)) := by
  refine gj_enterW (own := R_E) (by decide) rfl (Nat.le_of_ble_eq_true rfl) rfl rfl (fun p e s m below meth c cx hr hlk hK hsz => ?_)
  have hA : ∀ q, s.heap.size ≤ q → va_A (oW cI cJ cO h hN ad n f fa σ) sz q := fun q h => Or.inr (hsz ▸ h)
  have hKn : va_K D vwK (tyl cI cJ) s := hK.sub [0, 1] rfl
  refine gj_aload_n (pc := 0) cx d_E_corrupt_0 rfl (x := h) rfl ?_
  refine gj_iload_n (pc := 1) cx d_E_corrupt_1 rfl (x := nd) rfl ?_
  refine gj_callVRi (pc := 2) (As := [.int nd]) (rest := []) (v := bI (eCor n σ nd)) cx hK (c_E_isCorrect l D cI cJ cO h hN ad n f fa σ nd (by omega) (hs)) (cwV 1 cx.2.2.2.2 (good_V wm_122 wm_120 wm_121 wm_538 wm_1) rfl rfl rfl (by decide +kernel) ⟨Nat.le_of_ble_eq_true rfl, Nat.le_of_ble_eq_true rfl⟩) gj_wP 0 1 rfl rfl rfl rfl rfl (Nat.le_of_ble_eq_true rfl) d_E_corrupt_2 ⟨Nat.zero_le _, Nat.zero_le _⟩ ?_
  refine gj_if_eqB (pc := 5) cx d_E_corrupt_5 (tgt := 19) rfl (fun hb1 => ?_) (fun hb1 => ?_)
  · refine gj_iconst (pc := 19) cx d_E_corrupt_19 (v := nI 0) (by decide) ?_
    exact gj_zretW (pc := 20) cx hr hlk d_E_corrupt_20 rfl (by rw [eCorrupt, if_neg (fun z => by rw [hb1] at z; cases z.1)] <;> rfl) (by rw [eCorrupt, if_neg (fun z => by rw [hb1] at z; cases z.1)] <;> rfl)
  · refine gj_aload_n (pc := 8) cx d_E_corrupt_8 rfl (x := h) rfl ?_
    refine gj_get (pc := 9) (ci := 1) (C := R_E) (T := T_E) (N := 4) (v := .int (nI fa)) cx hK gj_wP in_E d_E_corrupt_9 0 rfl rfl 3 (by decide) (in_WT wm_62) rfl ?_
    refine gj_aload_n (pc := 12) cx d_E_corrupt_12 rfl (x := h) rfl ?_
    refine gj_get (pc := 13) (ci := 1) (C := R_E) (T := T_E) (N := 4) (v := .int (nI f)) cx hK gj_wP in_E d_E_corrupt_13 0 rfl rfl 1 (by decide) (in_WT wm_60) rfl ?_
    refine gj_icmp_ltN (pc := 16) cx d_E_corrupt_16 (tgt := 21) rfl (by omega) (by omega) (fun hb2 => ?_) (fun hb2 => ?_)
    · obtain ⟨x, hx, rfl, hxc⟩ := eCor_of hn hb1
      refine gj_aload_n (pc := 21) cx d_E_corrupt_21 rfl (x := h) rfl ?_
      refine gj_get (pc := 22) (ci := 1) (C := R_E) (T := T_E) (N := 4) (v := .ref hN) cx hK gj_wP in_E d_E_corrupt_22 0 rfl rfl 2 (by decide) (in_WT wm_61) rfl ?_
      refine gj_iload_n (pc := 25) cx d_E_corrupt_25 rfl (x := nI x) rfl ?_
      refine gj_aald (pc := 26) (i := x) (x := ad x 0) cx hK gj_wP d_E_corrupt_26 1 2 rfl rfl (by omega) (by omega) rfl ?_
      refine gj_callVWv (pc := 27) (As := []) (rest := []) (ws' := oW cI cJ cO h hN ad n f fa (va_up σ x (sCo (σ x) 2))) cx hKn hA (fun sz => c_N_turnFaulty l D cI cJ (ad x) x n f (σ x)   sz) (cwV 0 cx.2.2.2.2 (good_V wm_126 wm_123 wm_124 wm_125 wm_3) rfl rfl rfl (by decide +kernel) ⟨Nat.le_of_ble_eq_true rfl, Nat.le_of_ble_eq_true rfl⟩) (oW_J (by omega) _) 0 0 rfl rfl rfl rfl rfl (Nat.le_of_ble_eq_true rfl) d_E_corrupt_27 ⟨Nat.zero_le _, Nat.zero_le _⟩ ?_
      refine gj_aload_n (pc := 30) cx d_E_corrupt_30 rfl (x := h) rfl ?_
      refine gj_dup (pc := 31) cx d_E_corrupt_31 rfl ?_
      refine gj_get (pc := 32) (ci := 1) (C := R_E) (T := T_E) (N := 4) (v := .int (nI fa)) cx hK gj_wP in_E d_E_corrupt_32 0 rfl rfl 3 (by decide) (in_WT wm_62) rfl ?_
      refine gj_iconst (pc := 35) cx d_E_corrupt_35 (v := nI 1) (by decide) ?_
      refine gj_iaddN (pc := 36) cx d_E_corrupt_36 ?_
      refine gj_put (pc := 37) (ci := 1) (C := R_E) (T := T_E) (N := 4) (ty := .int) (v := .int (nI (fa + 1))) (ws' := oW cI cJ cO h hN ad n f (fa + 1) (va_up σ x (sCo (σ x) 2))) cx hK in_E ty_E ty_E_ok nm_E d_E_corrupt_37 0 rfl rfl 3 (by decide) (in_WT wm_62) rfl (by decide +kernel) rfl rfl (Nat.le_of_ble_eq_true rfl) rfl ?_
      refine gj_iconst (pc := 40) cx d_E_corrupt_40 (v := nI 1) (by decide) ?_
      exact gj_zretW (pc := 41) cx hr hlk d_E_corrupt_41 rfl (by rw [eCorrupt, if_pos ⟨hb1, hb2⟩, xN_nI (by omega)] <;> rfl) (by rw [eCorrupt, if_pos ⟨hb1, hb2⟩, xN_nI (by omega)] <;> rfl)
    · refine gj_iconst (pc := 19) cx d_E_corrupt_19 (v := nI 0) (by decide) ?_
      exact gj_zretW (pc := 20) cx hr hlk d_E_corrupt_20 rfl (by rw [eCorrupt, if_neg (fun z => by have := z.2; omega)] <;> rfl) (by rw [eCorrupt, if_neg (fun z => by have := z.2; omega)] <;> rfl)

set_option maxRecDepth 100000 in
set_option maxHeartbeats 4000000 in
theorem c_E_submit (l : Launch) (D : va_G) (cI cJ cO : ClassId) (h hN : Nat) (ad : Nat → Nat → Nat) (n f fa : Nat) (σ : Nat → NS) (nd : Int32) (py : Int32) (am : Int32) (hn : n ≤ 7) (hs : ∀ x, x < n → nInv n (σ x)) (sz : Nat) : MWi l y_E_submit (wsM y_E_submit b_E_submit 4 (some .int)) { frames := 4, cells := 0, slots := 0, locals := 89 } D vwK (tyo cI cJ cO) (oW cI cJ cO h hN ad n f fa σ) (oW cI cJ cO h hN ad n f fa ((eSubmit n σ nd py am).2)) sz [.ref h, .int nd, .int py, .int am] ((eSubmit n σ nd py am).1) := by
  refine gj_enterW (own := R_E) (by decide) rfl (Nat.le_of_ble_eq_true rfl) rfl rfl (fun p e s m below meth c cx hr hlk hK hsz => ?_)
  have hA : ∀ q, s.heap.size ≤ q → va_A (oW cI cJ cO h hN ad n f fa σ) sz q := fun q h => Or.inr (hsz ▸ h)
  have hKn : va_K D vwK (tyl cI cJ) s := hK.sub [0, 1] rfl
  refine gj_aload_n (pc := 0) cx d_E_submit_0 rfl (x := h) rfl ?_
  refine gj_iload_n (pc := 1) cx d_E_submit_1 rfl (x := nd) rfl ?_
  refine gj_callVRi (pc := 2) (As := [.int nd]) (rest := []) (v := bI (eUp n σ nd)) cx hK (c_E_isUp l D cI cJ cO h hN ad n f fa σ nd (by omega) (hs)) (cwV 1 cx.2.2.2.2 (good_V wm_73 wm_71 wm_72 wm_532 wm_1) rfl rfl rfl (by decide +kernel) ⟨Nat.le_of_ble_eq_true rfl, Nat.le_of_ble_eq_true rfl⟩) gj_wP 0 1 rfl rfl rfl rfl rfl (Nat.le_of_ble_eq_true rfl) d_E_submit_2 ⟨Nat.zero_le _, Nat.zero_le _⟩ ?_
  refine gj_if_eqB (pc := 5) cx d_E_submit_5 (tgt := 33) rfl (fun hb1 => ?_) (fun hb1 => ?_)
  · refine gj_iconst (pc := 33) cx d_E_submit_33 (v := (-1)) (by decide) ?_
    exact gj_iretW (pc := 34) cx hr hlk d_E_submit_34 (by rw [eSubmit, if_neg (fun z => by rw [hb1] at z; cases z.1)] <;> rfl) (by rw [eSubmit, if_neg (fun z => by rw [hb1] at z; cases z.1)] <;> rfl)
  · refine gj_aload_n (pc := 8) cx d_E_submit_8 rfl (x := h) rfl ?_
    refine gj_iload_n (pc := 9) cx d_E_submit_9 rfl (x := py) rfl ?_
    refine gj_callVRi (pc := 10) (As := [.int py]) (rest := []) (v := bI (isN n py)) cx hK (c_E_isNode l D cI cJ cO h hN ad n f fa σ py ) (cwV 1 cx.2.2.2.2 (good_V wm_76 wm_74 wm_75 wm_533 wm_1) rfl rfl rfl (by decide +kernel) ⟨Nat.le_of_ble_eq_true rfl, Nat.le_of_ble_eq_true rfl⟩) gj_wP 0 1 rfl rfl rfl rfl rfl (Nat.le_of_ble_eq_true rfl) d_E_submit_10 ⟨Nat.zero_le _, Nat.zero_le _⟩ ?_
    refine gj_if_eqB (pc := 13) cx d_E_submit_13 (tgt := 33) rfl (fun hb2 => ?_) (fun hb2 => ?_)
    · refine gj_iconst (pc := 33) cx d_E_submit_33 (v := (-1)) (by decide) ?_
      exact gj_iretW (pc := 34) cx hr hlk d_E_submit_34 (by rw [eSubmit, if_neg (fun z => by rw [hb2] at z; cases z.2.1)] <;> rfl) (by rw [eSubmit, if_neg (fun z => by rw [hb2] at z; cases z.2.1)] <;> rfl)
    · refine gj_iload_n (pc := 16) cx d_E_submit_16 rfl (x := py) rfl ?_
      refine gj_iload_n (pc := 17) cx d_E_submit_17 rfl (x := nd) rfl ?_
      refine gj_icmp_eq (pc := 18) cx d_E_submit_18 (tgt := 33) rfl (fun hb3 => ?_) (fun hb3 => ?_)
      · refine gj_iconst (pc := 33) cx d_E_submit_33 (v := (-1)) (by decide) ?_
        exact gj_iretW (pc := 34) cx hr hlk d_E_submit_34 (by rw [eSubmit, if_neg (fun z => z.2.2.1 hb3)] <;> rfl) (by rw [eSubmit, if_neg (fun z => z.2.2.1 hb3)] <;> rfl)
      · refine gj_iload_n (pc := 21) cx d_E_submit_21 rfl (x := am) rfl ?_
        refine gj_iconst (pc := 22) cx d_E_submit_22 (v := nI 1) (by decide) ?_
        refine gj_icmp_lt (pc := 23) cx d_E_submit_23 (tgt := 33) rfl (fun hb4 => ?_) (fun hb4 => ?_)
        · refine gj_iconst (pc := 33) cx d_E_submit_33 (v := (-1)) (by decide) ?_
          exact gj_iretW (pc := 34) cx hr hlk d_E_submit_34 (by rw [eSubmit, if_neg (fun z => z.2.2.2.1 hb4)] <;> rfl) (by rw [eSubmit, if_neg (fun z => z.2.2.2.1 hb4)] <;> rfl)
        · refine gj_iload_n (pc := 26) cx d_E_submit_26 rfl (x := am) rfl ?_
          refine gj_sipush (pc := 27) cx d_E_submit_27 (v := nI 1023) (by decide) ?_
          refine gj_icmp_le (pc := 30) cx d_E_submit_30 (tgt := 35) rfl (fun hb5 => ?_) (fun hb5 => ?_)
          · obtain ⟨x, hx, rfl, hxu⟩ := eUp_of hn hb1
            obtain ⟨y, hy, rfl⟩ := isN_of hn hb2
            obtain ⟨k, hk, rfl⟩ := nI_of2 (M := 1023) (n := 1023) (by decide) (fun z => hb4 (Int32.lt_of_lt_of_le z (by decide))) hb5
            refine gj_aload_n (pc := 35) cx d_E_submit_35 rfl (x := h) rfl ?_
            refine gj_get (pc := 36) (ci := 1) (C := R_E) (T := T_E) (N := 4) (v := .ref hN) cx hK gj_wP in_E d_E_submit_36 0 rfl rfl 2 (by decide) (in_WT wm_61) rfl ?_
            refine gj_iload_n (pc := 39) cx d_E_submit_39 rfl (x := nI x) rfl ?_
            refine gj_aald (pc := 40) (i := x) (x := ad x 0) cx hK gj_wP d_E_submit_40 1 2 rfl rfl (by omega) (by omega) rfl ?_
            refine gj_iload_n (pc := 41) cx d_E_submit_41 rfl (x := nI y) rfl ?_
            refine gj_iload_n (pc := 42) cx d_E_submit_42 rfl (x := nI k) rfl ?_
            refine gj_callVWi (pc := 43) (As := [.int (nI y), .int (nI k)]) (rest := []) (v := (nSubmit (σ x) x n y k).1) (ws' := oW cI cJ cO h hN ad n f fa (va_up σ x ((nSubmit (σ x) x n y k).2))) cx hKn hA (fun sz => c_N_writeSubmission l D cI cJ (ad x) x n f (σ x) y k ((hs x (by omega)).1) (by omega) (by omega) (by omega) (by omega) sz) (cwV 2 cx.2.2.2.2 (good_V wm_84 wm_81 wm_82 wm_83 wm_3) rfl rfl rfl (by decide +kernel) ⟨Nat.le_of_ble_eq_true rfl, Nat.le_of_ble_eq_true rfl⟩) (oW_J (by omega) _) 0 0 rfl rfl rfl rfl rfl (Nat.le_of_ble_eq_true rfl) d_E_submit_43 ⟨Nat.zero_le _, Nat.zero_le _⟩ ?_
            exact gj_iretW (pc := 46) cx hr hlk d_E_submit_46 (by rw [eSubmit, if_pos ⟨hb1, hb2, hb3, hb4, hb5⟩, xN_nI (by omega), xN_nI (by omega), xN_nI (by omega)] <;> rfl) (by rw [eSubmit, if_pos ⟨hb1, hb2, hb3, hb4, hb5⟩, xN_nI (by omega), xN_nI (by omega), xN_nI (by omega)] <;> rfl)
          · refine gj_iconst (pc := 33) cx d_E_submit_33 (v := (-1)) (by decide) ?_
            exact gj_iretW (pc := 34) cx hr hlk d_E_submit_34 (by rw [eSubmit, if_neg (fun z => hb5 z.2.2.2.2)] <;> rfl) (by rw [eSubmit, if_neg (fun z => hb5 z.2.2.2.2)] <;> rfl)

set_option maxRecDepth 100000 in
set_option maxHeartbeats 4000000 in
theorem c_E_forge (l : Launch) (D : va_G) (cI cJ cO : ClassId) (h hN : Nat) (ad : Nat → Nat → Nat) (n f fa : Nat) (σ : Nat → NS) (fd : Int32) (td : Int32) (hd : Int32) (pp : Int64) (hn : n ≤ 7) (hs : ∀ x, x < n → nInv n (σ x)) (hf : f ≤ 7) (sz : Nat) : MWi l y_E_forge (wsM y_E_forge b_E_forge 7 (some .int)) { frames := 6, cells := 0, slots := 0, locals := 141 } D vwK (tyo cI cJ cO) (oW cI cJ cO h hN ad n f fa σ) (oW cI cJ cO h hN ad n f fa ((eForge n f σ fd td hd pp).2)) sz [.ref h, .int fd, .int td, .int hd, .long pp] ((eForge n f σ fd td hd pp).1) := by
  refine gj_enterW (own := R_E) (by decide) rfl (Nat.le_of_ble_eq_true rfl) rfl rfl (fun p e s m below meth c cx hr hlk hK hsz => ?_)
  have hA : ∀ q, s.heap.size ≤ q → va_A (oW cI cJ cO h hN ad n f fa σ) sz q := fun q h => Or.inr (hsz ▸ h)
  have hKn : va_K D vwK (tyl cI cJ) s := hK.sub [0, 1] rfl
  refine gj_aload_n (pc := 0) cx d_E_forge_0 rfl (x := h) rfl ?_
  refine gj_iload_n (pc := 1) cx d_E_forge_1 rfl (x := fd) rfl ?_
  refine gj_callVRi (pc := 2) (As := [.int fd]) (rest := []) (v := eState n σ fd) cx hK (c_E_state l D cI cJ cO h hN ad n f fa σ fd (by omega) (hs)) (cwV 1 cx.2.2.2.2 (good_V wm_134 wm_131 wm_132 wm_133 wm_1) rfl rfl rfl (by decide +kernel) ⟨Nat.le_of_ble_eq_true rfl, Nat.le_of_ble_eq_true rfl⟩) gj_wP 0 1 rfl rfl rfl rfl rfl (Nat.le_of_ble_eq_true rfl) d_E_forge_2 ⟨Nat.zero_le _, Nat.zero_le _⟩ ?_
  refine gj_iconst (pc := 5) cx d_E_forge_5 (v := nI 2) (by decide) ?_
  refine gj_icmp_ne (pc := 6) cx d_E_forge_6 (tgt := 17) rfl (fun hb1 => ?_) (fun hb1 => ?_)
  · refine gj_iconst (pc := 17) cx d_E_forge_17 (v := (-1)) (by decide) ?_
    exact gj_iretW (pc := 18) cx hr hlk d_E_forge_18 (by rw [eForge, if_neg (fun z => hb1 z.1)] <;> rfl) (by rw [eForge, if_neg (fun z => hb1 z.1)] <;> rfl)
  · refine gj_aload_n (pc := 9) cx d_E_forge_9 rfl (x := h) rfl ?_
    refine gj_iload_n (pc := 10) cx d_E_forge_10 rfl (x := td) rfl ?_
    refine gj_callVRi (pc := 11) (As := [.int td]) (rest := []) (v := bI (eUp n σ td)) cx hK (c_E_isUp l D cI cJ cO h hN ad n f fa σ td (by omega) (hs)) (cwV 1 cx.2.2.2.2 (good_V wm_73 wm_71 wm_72 wm_532 wm_1) rfl rfl rfl (by decide +kernel) ⟨Nat.le_of_ble_eq_true rfl, Nat.le_of_ble_eq_true rfl⟩) gj_wP 0 1 rfl rfl rfl rfl rfl (Nat.le_of_ble_eq_true rfl) d_E_forge_11 ⟨Nat.zero_le _, Nat.zero_le _⟩ ?_
    refine gj_if_neB (pc := 14) cx d_E_forge_14 (tgt := 19) rfl (fun hb2 => ?_) (fun hb2 => ?_)
    · refine gj_aload_n (pc := 19) cx d_E_forge_19 rfl (x := h) rfl ?_
      refine gj_iload_n (pc := 20) cx d_E_forge_20 rfl (x := hd) rfl ?_
      refine gj_bipush (pc := 21) cx d_E_forge_21 (v := nI 7) (by decide) ?_
      refine gj_iand (pc := 23) cx d_E_forge_23 ?_
      refine gj_iload_n (pc := 24) cx d_E_forge_24 rfl (x := hd) rfl ?_
      refine gj_iconst (pc := 25) cx d_E_forge_25 (v := nI 3) (by decide) ?_
      refine gj_ishr (pc := 26) cx d_E_forge_26 ?_
      refine gj_bipush (pc := 27) cx d_E_forge_27 (v := nI 7) (by decide) ?_
      refine gj_iand (pc := 29) cx d_E_forge_29 ?_
      refine gj_iload_n (pc := 30) cx d_E_forge_30 rfl (x := hd) rfl ?_
      refine gj_bipush (pc := 31) cx d_E_forge_31 (v := nI 6) (by decide) ?_
      refine gj_ishr (pc := 33) cx d_E_forge_33 ?_
      refine gj_callVRi (pc := 34) (As := [.int (hd &&& (nI 7)), .int ((hd >>> ((nI 3) &&& 31)) &&& (nI 7)), .int (hd >>> ((nI 6) &&& 31))]) (rest := []) (v := tpI (tpc n (hd &&& (nI 7)) ((hd >>> ((nI 3) &&& 31)) &&& (nI 7)) (hd >>> ((nI 6) &&& 31)))) cx hK (c_E_topicOf l D cI cJ cO h hN ad n f fa σ (hd &&& (nI 7)) ((hd >>> ((nI 3) &&& 31)) &&& (nI 7)) (hd >>> ((nI 6) &&& 31)) (by omega)) (cwV 3 cx.2.2.2.2 (good_V wm_137 wm_135 wm_136 wm_539 wm_1) rfl rfl rfl (by decide +kernel) ⟨Nat.le_of_ble_eq_true rfl, Nat.le_of_ble_eq_true rfl⟩) gj_wP 0 1 rfl rfl rfl rfl rfl (Nat.le_of_ble_eq_true rfl) d_E_forge_34 ⟨Nat.zero_le _, Nat.zero_le _⟩ ?_
      rcases hT : tpc n (hd &&& nI 7) ((hd >>> (nI 3 &&& 31)) &&& nI 7) (hd >>> (nI 6 &&& 31)) with _ | t
      · refine gj_toi (y := (-1)) rfl ?_
        refine gj_istore (pc := 37) cx d_E_forge_37 (lo' := [(6, .int (-1)), (0, .ref h), (1, .int fd), (2, .int td), (3, .int hd), (4, .long pp)]) (by decide) rfl ?_
        refine gj_iload (pc := 39) cx d_E_forge_39 (x := (-1)) rfl ?_
        refine gj_iconst (pc := 41) cx d_E_forge_41 (v := (-1)) (by decide) ?_
        refine gj_icmp_ne (pc := 42) cx d_E_forge_42 (tgt := 50) rfl (fun hb3 => absurd hb3 (fun z => z rfl)) (fun hb3 => ?_)
        refine gj_bipush (pc := 45) cx d_E_forge_45 (v := (-3)) (by decide) ?_
        refine gj_goto (pc := 47) cx d_E_forge_47 (tgt := 64) rfl ?_
        exact gj_iretW (pc := 64) cx hr hlk d_E_forge_64 (by rw [eForge, if_pos ⟨hb1, hb2⟩, hT] <;> rfl) (by rw [eForge, if_pos ⟨hb1, hb2⟩, hT] <;> rfl)
      · refine gj_toi (y := nI t) rfl ?_
        have htt := tpc_lt hn hT
        refine gj_istore (pc := 37) cx d_E_forge_37 (lo' := [(6, .int (nI t)), (0, .ref h), (1, .int fd), (2, .int td), (3, .int hd), (4, .long pp)]) (by decide) rfl ?_
        refine gj_iload (pc := 39) cx d_E_forge_39 (x := nI t) rfl ?_
        refine gj_iconst (pc := 41) cx d_E_forge_41 (v := (-1)) (by decide) ?_
        refine gj_icmp_ne (pc := 42) cx d_E_forge_42 (tgt := 50) rfl (fun hb4 => ?_) (fun hb4 => absurd hb4 (nI_m1 (by omega)))
        obtain ⟨y, hy, rfl, hys⟩ := eState_of (c := 2) hn (by omega) (fun y hy => (hs y hy).1.1) hb1
        obtain ⟨x, hx, rfl, hxu⟩ := eUp_of hn hb2
        refine gj_aload_n (pc := 50) cx d_E_forge_50 rfl (x := h) rfl ?_
        refine gj_get (pc := 51) (ci := 1) (C := R_E) (T := T_E) (N := 4) (v := .ref hN) cx hK gj_wP in_E d_E_forge_51 0 rfl rfl 2 (by decide) (in_WT wm_61) rfl ?_
        refine gj_iload_n (pc := 54) cx d_E_forge_54 rfl (x := nI x) rfl ?_
        refine gj_aald (pc := 55) (i := x) (x := ad x 0) cx hK gj_wP d_E_forge_55 1 2 rfl rfl (by omega) (by omega) rfl ?_
        refine gj_iload (pc := 56) cx d_E_forge_56 (x := nI t) rfl ?_
        refine gj_iload_n (pc := 58) cx d_E_forge_58 rfl (x := nI y) rfl ?_
        refine gj_lload (pc := 59) cx d_E_forge_59 (x := pp) rfl ?_
        refine gj_callVWi (pc := 61) (As := [.int (nI t), .int (nI y), .long pp]) (rest := []) (v := (nRecv (σ x) n f t y pp).1) (ws' := oW cI cJ cO h hN ad n f fa (va_up σ x ((nRecv (σ x) n f t y pp).2))) cx hKn hA (fun sz => c_N_receive l D cI cJ (ad x) x n f (σ x) t y pp ((hs x (by omega)).1) ((hs x (by omega)).2.1) ((hs x (by omega)).2.2) (by omega) (by omega) (by omega) (by omega) sz) (cwV 3 cx.2.2.2.2 (good_V wm_142 wm_139 wm_140 wm_141 wm_3) rfl rfl rfl (by decide +kernel) ⟨Nat.le_of_ble_eq_true rfl, Nat.le_of_ble_eq_true rfl⟩) (oW_J (by omega) _) 0 0 rfl rfl rfl rfl rfl (Nat.le_of_ble_eq_true rfl) d_E_forge_61 ⟨Nat.zero_le _, Nat.zero_le _⟩ ?_
        exact gj_iretW (pc := 64) cx hr hlk d_E_forge_64 (by rw [eForge, if_pos ⟨hb1, hb2⟩, hT, xN_nI (by omega), xN_nI (by omega)] <;> rfl) (by rw [eForge, if_pos ⟨hb1, hb2⟩, hT, xN_nI (by omega), xN_nI (by omega)] <;> rfl)
    · refine gj_iconst (pc := 17) cx d_E_forge_17 (v := (-1)) (by decide) ?_
      exact gj_iretW (pc := 18) cx hr hlk d_E_forge_18 (by rw [eForge, if_neg (fun z => by rw [hb2] at z; cases z.2)] <;> rfl) (by rw [eForge, if_neg (fun z => by rw [hb2] at z; cases z.2)] <;> rfl)

set_option maxRecDepth 100000 in
set_option maxHeartbeats 4000000 in
theorem c_E_carry (l : Launch) (D : va_G) (cI cJ cO : ClassId) (h hN : Nat) (ad : Nat → Nat → Nat) (n f fa : Nat) (σ : Nat → NS) (fd : Int32) (td : Int32) (kd : Int32) (bd : Int32) (qd : Int32) (hn : n ≤ 7) (hs : ∀ x, x < n → nInv n (σ x)) (hf : f ≤ 7) (sz : Nat) : MWi l y_E_carry (wsM y_E_carry b_E_carry 7 (some .int)) { frames := 6, cells := 0, slots := 0, locals := 141 } D vwK (tyo cI cJ cO) (oW cI cJ cO h hN ad n f fa σ) (oW cI cJ cO h hN ad n f fa ((eCarry n f σ fd td kd bd qd).2)) sz [.ref h, .int fd, .int td, .int kd, .int bd, .int qd] ((eCarry n f σ fd td kd bd qd).1) := by
  refine gj_enterW (own := R_E) (by decide) rfl (Nat.le_of_ble_eq_true rfl) rfl rfl (fun p e s m below meth c cx hr hlk hK hsz => ?_)
  have hA : ∀ q, s.heap.size ≤ q → va_A (oW cI cJ cO h hN ad n f fa σ) sz q := fun q h => Or.inr (hsz ▸ h)
  have hKn : va_K D vwK (tyl cI cJ) s := hK.sub [0, 1] rfl
  refine gj_aload_n (pc := 0) cx d_E_carry_0 rfl (x := h) rfl ?_
  refine gj_iload_n (pc := 1) cx d_E_carry_1 rfl (x := fd) rfl ?_
  refine gj_callVRi (pc := 2) (As := [.int fd]) (rest := []) (v := bI (eCor n σ fd)) cx hK (c_E_isCorrect l D cI cJ cO h hN ad n f fa σ fd (by omega) (hs)) (cwV 1 cx.2.2.2.2 (good_V wm_122 wm_120 wm_121 wm_538 wm_1) rfl rfl rfl (by decide +kernel) ⟨Nat.le_of_ble_eq_true rfl, Nat.le_of_ble_eq_true rfl⟩) gj_wP 0 1 rfl rfl rfl rfl rfl (Nat.le_of_ble_eq_true rfl) d_E_carry_2 ⟨Nat.zero_le _, Nat.zero_le _⟩ ?_
  refine gj_if_eqB (pc := 5) cx d_E_carry_5 (tgt := 16) rfl (fun hb1 => ?_) (fun hb1 => ?_)
  · refine gj_iconst (pc := 16) cx d_E_carry_16 (v := (-1)) (by decide) ?_
    exact gj_iretW (pc := 17) cx hr hlk d_E_carry_17 (by rw [eCarry, if_neg (fun z => by rw [hb1] at z; cases z.1)] <;> rfl) (by rw [eCarry, if_neg (fun z => by rw [hb1] at z; cases z.1)] <;> rfl)
  · refine gj_aload_n (pc := 8) cx d_E_carry_8 rfl (x := h) rfl ?_
    refine gj_iload_n (pc := 9) cx d_E_carry_9 rfl (x := td) rfl ?_
    refine gj_callVRi (pc := 10) (As := [.int td]) (rest := []) (v := bI (eUp n σ td)) cx hK (c_E_isUp l D cI cJ cO h hN ad n f fa σ td (by omega) (hs)) (cwV 1 cx.2.2.2.2 (good_V wm_73 wm_71 wm_72 wm_532 wm_1) rfl rfl rfl (by decide +kernel) ⟨Nat.le_of_ble_eq_true rfl, Nat.le_of_ble_eq_true rfl⟩) gj_wP 0 1 rfl rfl rfl rfl rfl (Nat.le_of_ble_eq_true rfl) d_E_carry_10 ⟨Nat.zero_le _, Nat.zero_le _⟩ ?_
    refine gj_if_neB (pc := 13) cx d_E_carry_13 (tgt := 18) rfl (fun hb2 => ?_) (fun hb2 => ?_)
    · refine gj_aload_n (pc := 18) cx d_E_carry_18 rfl (x := h) rfl ?_
      refine gj_iload_n (pc := 19) cx d_E_carry_19 rfl (x := kd) rfl ?_
      refine gj_iload (pc := 20) cx d_E_carry_20 (x := bd) rfl ?_
      refine gj_iload (pc := 22) cx d_E_carry_22 (x := qd) rfl ?_
      refine gj_callVRi (pc := 24) (As := [.int kd, .int bd, .int qd]) (rest := []) (v := tpI (tpc n kd bd qd)) cx hK (c_E_topicOf l D cI cJ cO h hN ad n f fa σ kd bd qd (by omega)) (cwV 3 cx.2.2.2.2 (good_V wm_137 wm_135 wm_136 wm_539 wm_1) rfl rfl rfl (by decide +kernel) ⟨Nat.le_of_ble_eq_true rfl, Nat.le_of_ble_eq_true rfl⟩) gj_wP 0 1 rfl rfl rfl rfl rfl (Nat.le_of_ble_eq_true rfl) d_E_carry_24 ⟨Nat.zero_le _, Nat.zero_le _⟩ ?_
      rcases hT : tpc n kd bd qd with _ | t
      · refine gj_toi (y := (-1)) rfl ?_
        refine gj_istore (pc := 27) cx d_E_carry_27 (lo' := [(6, .int (-1)), (0, .ref h), (1, .int fd), (2, .int td), (3, .int kd), (4, .int bd), (5, .int qd)]) (by decide) rfl ?_
        refine gj_iload (pc := 29) cx d_E_carry_29 (x := (-1)) rfl ?_
        refine gj_iconst (pc := 31) cx d_E_carry_31 (v := (-1)) (by decide) ?_
        refine gj_icmp_eq (pc := 32) cx d_E_carry_32 (tgt := 53) rfl (fun hb3 => ?_) (fun hb3 => absurd hb3 (fun z => z rfl))
        refine gj_bipush (pc := 53) cx d_E_carry_53 (v := (-2)) (by decide) ?_
        exact gj_iretW (pc := 55) cx hr hlk d_E_carry_55 (by rw [eCarry, if_pos ⟨hb1, hb2⟩, hT] <;> rfl) (by rw [eCarry, if_pos ⟨hb1, hb2⟩, hT] <;> rfl)
      · refine gj_toi (y := nI t) rfl ?_
        have htt := tpc_lt hn hT
        refine gj_istore (pc := 27) cx d_E_carry_27 (lo' := [(6, .int (nI t)), (0, .ref h), (1, .int fd), (2, .int td), (3, .int kd), (4, .int bd), (5, .int qd)]) (by decide) rfl ?_
        refine gj_iload (pc := 29) cx d_E_carry_29 (x := nI t) rfl ?_
        refine gj_iconst (pc := 31) cx d_E_carry_31 (v := (-1)) (by decide) ?_
        refine gj_icmp_eq (pc := 32) cx d_E_carry_32 (tgt := 53) rfl (fun hb4 => absurd hb4 (nI_m1 (by omega))) (fun hb4 => ?_)
        obtain ⟨y, hy, rfl, hyc⟩ := eCor_of hn hb1
        obtain ⟨x, hx, rfl, hxu⟩ := eUp_of hn hb2
        refine gj_aload_n (pc := 35) cx d_E_carry_35 rfl (x := h) rfl ?_
        refine gj_get (pc := 36) (ci := 1) (C := R_E) (T := T_E) (N := 4) (v := .ref hN) cx hK gj_wP in_E d_E_carry_36 0 rfl rfl 2 (by decide) (in_WT wm_61) rfl ?_
        refine gj_iload_n (pc := 39) cx d_E_carry_39 rfl (x := nI y) rfl ?_
        refine gj_aald (pc := 40) (i := y) (x := ad y 0) cx hK gj_wP d_E_carry_40 1 2 rfl rfl (by omega) (by omega) rfl ?_
        refine gj_iload (pc := 41) cx d_E_carry_41 (x := nI t) rfl ?_
        refine gj_callVRl (pc := 43) (As := [.int (nI t)]) (rest := []) (v := nSa (σ y) t) cx hKn (c_N_said l D cI cJ (ad y) y n f (σ y) t (by omega)) (cwV 1 cx.2.2.2.2 (good_V wm_218 wm_215 wm_216 wm_217 wm_3) rfl rfl rfl (by decide +kernel) ⟨Nat.le_of_ble_eq_true rfl, Nat.le_of_ble_eq_true rfl⟩) (fun H locs hB => oW_P (by omega) (gj_wP H locs hB)) 0 0 rfl rfl rfl rfl rfl (Nat.le_of_ble_eq_true rfl) d_E_carry_43 ⟨Nat.zero_le _, Nat.zero_le _⟩ ?_
        refine gj_ldc2 (pc := 46) cx d_E_carry_46 (v := (-1)) (in_WT wm_219) ?_
        refine gj_lcmp_ne (pc := 49) cx d_E_carry_49 d_E_carry_50 (tgt := 56) rfl (fun hb5 => ?_) (fun hb5 => ?_)
        · refine gj_aload_n (pc := 56) cx d_E_carry_56 rfl (x := h) rfl ?_
          refine gj_get (pc := 57) (ci := 1) (C := R_E) (T := T_E) (N := 4) (v := .ref hN) cx hK gj_wP in_E d_E_carry_57 0 rfl rfl 2 (by decide) (in_WT wm_61) rfl ?_
          refine gj_iload_n (pc := 60) cx d_E_carry_60 rfl (x := nI x) rfl ?_
          refine gj_aald (pc := 61) (i := x) (x := ad x 0) cx hK gj_wP d_E_carry_61 1 2 rfl rfl (by omega) (by omega) rfl ?_
          refine gj_iload (pc := 62) cx d_E_carry_62 (x := nI t) rfl ?_
          refine gj_iload_n (pc := 64) cx d_E_carry_64 rfl (x := nI y) rfl ?_
          refine gj_aload_n (pc := 65) cx d_E_carry_65 rfl (x := h) rfl ?_
          refine gj_get (pc := 66) (ci := 1) (C := R_E) (T := T_E) (N := 4) (v := .ref hN) cx hK gj_wP in_E d_E_carry_66 0 rfl rfl 2 (by decide) (in_WT wm_61) rfl ?_
          refine gj_iload_n (pc := 69) cx d_E_carry_69 rfl (x := nI y) rfl ?_
          refine gj_aald (pc := 70) (i := y) (x := ad y 0) cx hK gj_wP d_E_carry_70 1 2 rfl rfl (by omega) (by omega) rfl ?_
          refine gj_iload (pc := 71) cx d_E_carry_71 (x := nI t) rfl ?_
          refine gj_callVRl (pc := 73) (As := [.int (nI t)]) (rest := [.int (nI y), .int (nI t), .ref (ad x 0)]) (v := nSa (σ y) t) cx hKn (c_N_said l D cI cJ (ad y) y n f (σ y) t (by omega)) (cwV 1 cx.2.2.2.2 (good_V wm_218 wm_215 wm_216 wm_217 wm_3) rfl rfl rfl (by decide +kernel) ⟨Nat.le_of_ble_eq_true rfl, Nat.le_of_ble_eq_true rfl⟩) (fun H locs hB => oW_P (by omega) (gj_wP H locs hB)) 0 0 rfl rfl rfl rfl rfl (Nat.le_of_ble_eq_true rfl) d_E_carry_73 ⟨Nat.zero_le _, Nat.zero_le _⟩ ?_
          refine gj_callVWi (pc := 76) (As := [.int (nI t), .int (nI y), .long (nSa (σ y) t)]) (rest := []) (v := (nRecv (σ x) n f t y (nSa (σ y) t)).1) (ws' := oW cI cJ cO h hN ad n f fa (va_up σ x ((nRecv (σ x) n f t y (nSa (σ y) t)).2))) cx hKn hA (fun sz => c_N_receive l D cI cJ (ad x) x n f (σ x) t y (nSa (σ y) t) ((hs x (by omega)).1) ((hs x (by omega)).2.1) ((hs x (by omega)).2.2) (by omega) (by omega) (by omega) (by omega) sz) (cwV 3 cx.2.2.2.2 (good_V wm_142 wm_139 wm_140 wm_141 wm_3) rfl rfl rfl (by decide +kernel) ⟨Nat.le_of_ble_eq_true rfl, Nat.le_of_ble_eq_true rfl⟩) (oW_J (by omega) _) 0 0 rfl rfl rfl rfl rfl (Nat.le_of_ble_eq_true rfl) d_E_carry_76 ⟨Nat.zero_le _, Nat.zero_le _⟩ ?_
          exact gj_iretW (pc := 79) cx hr hlk d_E_carry_79 (by rw [eCarry, if_pos ⟨hb1, hb2⟩, hT, xN_nI (by omega), xN_nI (by omega)]; simp only [if_neg hb5] <;> rfl) (by rw [eCarry, if_pos ⟨hb1, hb2⟩, hT, xN_nI (by omega), xN_nI (by omega)]; simp only [if_neg hb5] <;> rfl)
        · refine gj_bipush (pc := 53) cx d_E_carry_53 (v := (-2)) (by decide) ?_
          exact gj_iretW (pc := 55) cx hr hlk d_E_carry_55 (by rw [eCarry, if_pos ⟨hb1, hb2⟩, hT, xN_nI (by omega)]; simp only [hb5, if_true] <;> rfl) (by rw [eCarry, if_pos ⟨hb1, hb2⟩, hT, xN_nI (by omega)]; simp only [hb5, if_true] <;> rfl)
    · refine gj_iconst (pc := 16) cx d_E_carry_16 (v := (-1)) (by decide) ?_
      exact gj_iretW (pc := 17) cx hr hlk d_E_carry_17 (by rw [eCarry, if_neg (fun z => by rw [hb2] at z; cases z.2)] <;> rfl) (by rw [eCarry, if_neg (fun z => by rw [hb2] at z; cases z.2)] <;> rfl)

set_option maxRecDepth 100000 in
set_option maxHeartbeats 4000000 in
theorem c_E_pump (l : Launch) (D : va_G) (cI cJ cO : ClassId) (h hN : Nat) (ad : Nat → Nat → Nat) (n f fa : Nat) (σ : Nat → NS) (kd : Int32) (hn : n ≤ 7) (hs : ∀ x, x < n → nInv n (σ x)) (hf : f ≤ 7) (sz : Nat) : MWi l y_E_pump (wsM y_E_pump b_E_pump 6 (some .int)) { frames := 6, cells := 0, slots := 0, locals := 141 } D vwK (tyo cI cJ cO) (oW cI cJ cO h hN ad n f fa σ) (oW cI cJ cO h hN ad n f fa ((ePumpC n f σ kd).2)) sz [.ref h, .int kd] ((ePumpC n f σ kd).1) := by
  refine gj_enterW (own := R_E) (by decide) rfl (Nat.le_of_ble_eq_true rfl) rfl rfl (fun p e s m below meth c cx hr hlk hK hsz => ?_)
  have hA : ∀ q, s.heap.size ≤ q → va_A (oW cI cJ cO h hN ad n f fa σ) sz q := fun q h => Or.inr (hsz ▸ h)
  have hKn : va_K D vwK (tyl cI cJ) s := hK.sub [0, 1] rfl
  refine gj_iload_n (pc := 0) cx d_E_pump_0 rfl (x := kd) rfl ?_
  refine gj_iconst (pc := 1) cx d_E_pump_1 (v := nI 1) (by decide) ?_
  refine gj_icmp_lt (pc := 2) cx d_E_pump_2 (tgt := 11) rfl (fun hb1 => ?_) (fun hb1 => ?_)
  · refine gj_iconst (pc := 11) cx d_E_pump_11 (v := (-1)) (by decide) ?_
    exact gj_iretW (pc := 12) cx hr hlk d_E_pump_12 (by rw [ePumpC, if_neg (fun z => z.1 hb1)] <;> rfl) (by rw [ePumpC, if_neg (fun z => z.1 hb1)] <;> rfl)
  · refine gj_iload_n (pc := 5) cx d_E_pump_5 rfl (x := kd) rfl ?_
    refine gj_bipush (pc := 6) cx d_E_pump_6 (v := nI 8) (by decide) ?_
    refine gj_icmp_le (pc := 8) cx d_E_pump_8 (tgt := 13) rfl (fun hb2 => ?_) (fun hb2 => ?_)
    · obtain ⟨k, hk, rfl⟩ := nI_of2 (M := 8) (n := 8) (by decide) (fun z => hb1 (Int32.lt_of_lt_of_le z (by decide))) hb2
      rw [show ePumpC n f σ (nI k) = (nI (ePump n f k 0 σ).1, (ePump n f k 0 σ).2) by rw [ePumpC, if_pos ⟨hb1, hb2⟩, xN_nI (by omega)]]
      refine gj_iconst (pc := 13) cx d_E_pump_13 (v := nI 0) (by decide) ?_
      refine gj_istore_n (pc := 14) cx d_E_pump_14 rfl (lo' := [(2, .int (nI 0)), (0, .ref h), (1, .int (nI k))]) (by decide) rfl ?_
      refine gj_pick (lo' := [(0, .ref h), (1, .int (nI k)), (2, .int (nI 0))]) [1, 2, 0] rfl ?_
      refine gj_forS (G := Gj p l e _ s m _ below meth c _ _ _ _ _) (σ := Nat → NS) (fun i τ => ePump n f (k - i) i τ = ePump n f k 0 σ ∧ ∀ x, x < n → nInv n (τ x)) k 15 (fun i _ => [(0, .ref h), (1, .int (nI k)), (2, .int (nI i))]) (fun _ τ => oW cI cJ cO h hN ad n f fa τ) (fun i hi ih τ hq => ?_) 0 (by omega) σ ⟨rfl, hs⟩
      obtain ⟨hE, hst⟩ := hq
      refine gj_iload_n (pc := 15) cx d_E_pump_15 rfl (x := nI i) rfl ?_
      refine gj_iload_n (pc := 16) cx d_E_pump_16 rfl (x := nI k) rfl ?_
      refine gj_icmp_geN (pc := 17) cx d_E_pump_17 (tgt := 82) rfl (by omega) (by omega) (fun hb3 => ?_) (fun hb3 => ?_)
      · refine gj_iload_n (pc := 82) cx d_E_pump_82 rfl (x := nI k) rfl ?_
        exact gj_iretW (pc := 83) cx hr hlk d_E_pump_83 (by rw [← hE, show i = k from (by omega), Nat.sub_self] <;> rfl) (by rw [← hE, show i = k from (by omega), Nat.sub_self] <;> rfl)
      · refine gj_aload_n (pc := 20) cx d_E_pump_20 rfl (x := h) rfl ?_
        refine gj_callVRi (pc := 21) (As := []) (rest := []) (v := if eFst n τ = 6909 then -1 else nI (eFst n τ)) cx hK (c_E_firstPending l D cI cJ cO h hN ad n f fa τ  (by omega) (hst)) (cwV 0 cx.2.2.2.2 (good_V wm_226 wm_224 wm_225 wm_552 wm_1) rfl rfl rfl (by decide +kernel) ⟨Nat.le_of_ble_eq_true rfl, Nat.le_of_ble_eq_true rfl⟩) gj_wP 0 1 rfl rfl rfl rfl rfl (Nat.le_of_ble_eq_true rfl) d_E_pump_21 ⟨Nat.zero_le _, Nat.zero_le _⟩ ?_
        by_cases hL : eFst n τ = 6909
        · refine gj_toi (y := (-1)) (if_pos hL) ?_
          refine gj_istore_n (pc := 24) cx d_E_pump_24 rfl (lo' := [(3, .int (-1)), (0, .ref h), (1, .int (nI k)), (2, .int (nI i))]) (by decide) rfl ?_
          refine gj_iload_n (pc := 25) cx d_E_pump_25 rfl (x := (-1)) rfl ?_
          refine gj_iconst (pc := 26) cx d_E_pump_26 (v := (-1)) (by decide) ?_
          refine gj_icmp_ne (pc := 27) cx d_E_pump_27 (tgt := 32) rfl (fun hb4 => absurd hb4 (fun z => z rfl)) (fun hb4 => ?_)
          refine gj_iload_n (pc := 30) cx d_E_pump_30 rfl (x := nI i) rfl ?_
          exact gj_iretW (pc := 31) cx hr hlk d_E_pump_31 (by rw [← hE, ePump_end hL] <;> rfl) (by rw [← hE, ePump_end hL] <;> rfl)
        · refine gj_toi (y := nI (eFst n τ)) (if_neg hL) ?_
          obtain ⟨hF1, hF2, hF3⟩ := eFst_lt hL
          refine gj_istore_n (pc := 24) cx d_E_pump_24 rfl (lo' := [(3, .int (nI (eFst n τ))), (0, .ref h), (1, .int (nI k)), (2, .int (nI i))]) (by decide) rfl ?_
          refine gj_iload_n (pc := 25) cx d_E_pump_25 rfl (x := nI (eFst n τ)) rfl ?_
          refine gj_iconst (pc := 26) cx d_E_pump_26 (v := (-1)) (by decide) ?_
          refine gj_icmp_ne (pc := 27) cx d_E_pump_27 (tgt := 32) rfl (fun hb5 => ?_) (fun hb5 => absurd hb5 (nI_m1 (by omega)))
          refine gj_iload_n (pc := 32) cx d_E_pump_32 rfl (x := nI (eFst n τ)) rfl ?_
          refine gj_bipush (pc := 33) cx d_E_pump_33 (v := nI 49) (by decide) ?_
          refine gj_idivN (pc := 35) cx d_E_pump_35 (by omega) (by omega) (by omega) ?_
          refine gj_istore (pc := 36) cx d_E_pump_36 (lo' := [(4, .int (nI ((eFst n τ) / 49))), (3, .int (nI (eFst n τ))), (0, .ref h), (1, .int (nI k)), (2, .int (nI i))]) (by decide) rfl ?_
          refine gj_iload_n (pc := 38) cx d_E_pump_38 rfl (x := nI (eFst n τ)) rfl ?_
          refine gj_bipush (pc := 39) cx d_E_pump_39 (v := nI 7) (by decide) ?_
          refine gj_idivN (pc := 41) cx d_E_pump_41 (by omega) (by omega) (by omega) ?_
          refine gj_bipush (pc := 42) cx d_E_pump_42 (v := nI 7) (by decide) ?_
          refine gj_iremN (pc := 44) cx d_E_pump_44 (by omega) (by omega) (by omega) ?_
          refine gj_istore (pc := 45) cx d_E_pump_45 (lo' := [(5, .int (nI (((eFst n τ) / 7) % 7))), (4, .int (nI ((eFst n τ) / 49))), (3, .int (nI (eFst n τ))), (0, .ref h), (1, .int (nI k)), (2, .int (nI i))]) (by decide) rfl ?_
          refine gj_aload_n (pc := 47) cx d_E_pump_47 rfl (x := h) rfl ?_
          refine gj_get (pc := 48) (ci := 1) (C := R_E) (T := T_E) (N := 4) (v := .ref hN) cx hK gj_wP in_E d_E_pump_48 0 rfl rfl 2 (by decide) (in_WT wm_61) rfl ?_
          refine gj_iload_n (pc := 51) cx d_E_pump_51 rfl (x := nI (eFst n τ)) rfl ?_
          refine gj_bipush (pc := 52) cx d_E_pump_52 (v := nI 7) (by decide) ?_
          refine gj_iremN (pc := 54) cx d_E_pump_54 (by omega) (by omega) (by omega) ?_
          refine gj_aald (pc := 55) (i := (eFst n τ) % 7) (x := ad ((eFst n τ) % 7) 0) cx hK gj_wP d_E_pump_55 1 2 rfl rfl (by omega) (by omega) rfl ?_
          refine gj_iload (pc := 56) cx d_E_pump_56 (x := nI ((eFst n τ) / 49)) rfl ?_
          refine gj_iload (pc := 58) cx d_E_pump_58 (x := nI (((eFst n τ) / 7) % 7)) rfl ?_
          refine gj_aload_n (pc := 60) cx d_E_pump_60 rfl (x := h) rfl ?_
          refine gj_get (pc := 61) (ci := 1) (C := R_E) (T := T_E) (N := 4) (v := .ref hN) cx hK gj_wP in_E d_E_pump_61 0 rfl rfl 2 (by decide) (in_WT wm_61) rfl ?_
          refine gj_iload (pc := 64) cx d_E_pump_64 (x := nI (((eFst n τ) / 7) % 7)) rfl ?_
          refine gj_aald (pc := 66) (i := ((eFst n τ) / 7) % 7) (x := ad (((eFst n τ) / 7) % 7) 0) cx hK gj_wP d_E_pump_66 1 2 rfl rfl (by omega) (by omega) rfl ?_
          refine gj_iload (pc := 67) cx d_E_pump_67 (x := nI ((eFst n τ) / 49)) rfl ?_
          refine gj_callVRl (pc := 69) (As := [.int (nI ((eFst n τ) / 49))]) (rest := [.int (nI (((eFst n τ) / 7) % 7)), .int (nI ((eFst n τ) / 49)), .ref (ad ((eFst n τ) % 7) 0)]) (v := nSa (τ (((eFst n τ) / 7) % 7)) ((eFst n τ) / 49)) cx hKn (c_N_said l D cI cJ (ad (((eFst n τ) / 7) % 7)) (((eFst n τ) / 7) % 7) n f (τ (((eFst n τ) / 7) % 7)) ((eFst n τ) / 49) (by omega)) (cwV 1 cx.2.2.2.2 (good_V wm_218 wm_215 wm_216 wm_217 wm_3) rfl rfl rfl (by decide +kernel) ⟨Nat.le_of_ble_eq_true rfl, Nat.le_of_ble_eq_true rfl⟩) (fun H locs hB => oW_P (by omega) (gj_wP H locs hB)) 0 0 rfl rfl rfl rfl rfl (Nat.le_of_ble_eq_true rfl) d_E_pump_69 ⟨Nat.zero_le _, Nat.zero_le _⟩ ?_
          refine gj_callVWi (pc := 72) (As := [.int (nI ((eFst n τ) / 49)), .int (nI (((eFst n τ) / 7) % 7)), .long (nSa (τ (((eFst n τ) / 7) % 7)) ((eFst n τ) / 49))]) (rest := []) (v := (nRecv (τ ((eFst n τ) % 7)) n f ((eFst n τ) / 49) (((eFst n τ) / 7) % 7) (nSa (τ (((eFst n τ) / 7) % 7)) ((eFst n τ) / 49))).1) (ws' := oW cI cJ cO h hN ad n f fa (va_up τ ((eFst n τ) % 7) ((nRecv (τ ((eFst n τ) % 7)) n f ((eFst n τ) / 49) (((eFst n τ) / 7) % 7) (nSa (τ (((eFst n τ) / 7) % 7)) ((eFst n τ) / 49))).2))) cx hKn hA (fun sz => c_N_receive l D cI cJ (ad ((eFst n τ) % 7)) ((eFst n τ) % 7) n f (τ ((eFst n τ) % 7)) ((eFst n τ) / 49) (((eFst n τ) / 7) % 7) (nSa (τ (((eFst n τ) / 7) % 7)) ((eFst n τ) / 49)) ((hst (eFst n τ % 7) (by omega)).1) ((hst (eFst n τ % 7) (by omega)).2.1) ((hst (eFst n τ % 7) (by omega)).2.2) (by omega) (by omega) (by omega) (by omega) sz) (cwV 3 cx.2.2.2.2 (good_V wm_142 wm_139 wm_140 wm_141 wm_3) rfl rfl rfl (by decide +kernel) ⟨Nat.le_of_ble_eq_true rfl, Nat.le_of_ble_eq_true rfl⟩) (oW_J (by omega) _) 0 0 rfl rfl rfl rfl rfl (Nat.le_of_ble_eq_true rfl) d_E_pump_72 ⟨Nat.zero_le _, Nat.zero_le _⟩ ?_
          refine gj_pop (pc := 75) cx d_E_pump_75 rfl ?_
          refine gj_iincN (pc := 76) cx d_E_pump_76 (k := 5) (d := 1) (lo' := [(2, .int (nI (i + 1))), (5, .int (nI (((eFst n τ) / 7) % 7))), (4, .int (nI ((eFst n τ) / 49))), (3, .int (nI (eFst n τ))), (0, .ref h), (1, .int (nI k))]) rfl (by decide) (by decide) rfl ?_
          refine gj_goto (pc := 79) cx d_E_pump_79 (tgt := 15) rfl ?_
          refine gj_pick (lo' := [(0, .ref h), (1, .int (nI k)), (2, .int (nI (i + 1)))]) [4, 5, 0] rfl ?_
          exact ih (by omega) _ ⟨(ePump_step (by omega) hL).symm.trans hE, eInv_up hst (nInv_recv hn (hst _ (by omega)))⟩
    · refine gj_iconst (pc := 11) cx d_E_pump_11 (v := (-1)) (by decide) ?_
      exact gj_iretW (pc := 12) cx hr hlk d_E_pump_12 (by rw [ePumpC, if_neg (fun z => hb2 z.2)] <;> rfl) (by rw [ePumpC, if_neg (fun z => hb2 z.2)] <;> rfl)
end
