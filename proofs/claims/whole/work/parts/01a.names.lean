-- ===== PART A: goes FIRST, ahead of the names: the tables' words, and 'selects' of the private methods out of them =====
/-- a private method of a class that the tables say can be made, by its rows of tables_1 -/
def lw_okq (q : MethodName × Nat) : Prop := (q.1.cls ≠ "java/lang/invoke/MethodHandle" ∧ q.1.cls ≠ "java/lang/invoke/VarHandle") ∧ Cond.instantiable q.1.cls q.2 ∈ tables_1 ∧ Cond.privateMethod q.1 ∈ tables_1 ∧ Cond.instanceMethod q.1 ∈ tables_1
theorem lw_p0 : lw_okq (⟨"LoanBook$Loan", "isRepaidBy", "(J)Z"⟩, 19) := ⟨⟨by decide +kernel, by decide +kernel⟩, List.mem_of_getElem? (i := 32) (by decide +kernel), List.mem_of_getElem? (i := 352) (by decide +kernel), List.mem_of_getElem? (i := 353) (by decide +kernel)⟩
theorem lw_p1 : lw_okq (⟨"LoanBook$Loan", "payBill", "(IJ)J"⟩, 19) := ⟨⟨by decide +kernel, by decide +kernel⟩, List.mem_of_getElem? (i := 32) (by decide +kernel), List.mem_of_getElem? (i := 410) (by decide +kernel), List.mem_of_getElem? (i := 411) (by decide +kernel)⟩
theorem lw_p2 : lw_okq (⟨"LoanBook$Tape", "here", "()I"⟩, 5) := ⟨⟨by decide +kernel, by decide +kernel⟩, List.mem_of_getElem? (i := 174) (by decide +kernel), List.mem_of_getElem? (i := 606) (by decide +kernel), List.mem_of_getElem? (i := 607) (by decide +kernel)⟩
theorem lw_p3 : lw_okq (⟨"LoanBook$Tape", "readNumber", "(I)Z"⟩, 5) := ⟨⟨by decide +kernel, by decide +kernel⟩, List.mem_of_getElem? (i := 174) (by decide +kernel), List.mem_of_getElem? (i := 613) (by decide +kernel), List.mem_of_getElem? (i := 614) (by decide +kernel)⟩
theorem lw_p4 : lw_okq (⟨"LoanBook", "doLine", "()J"⟩, 8) := ⟨⟨by decide +kernel, by decide +kernel⟩, List.mem_of_getElem? (i := 17) (by decide +kernel), List.mem_of_getElem? (i := 623) (by decide +kernel), List.mem_of_getElem? (i := 624) (by decide +kernel)⟩
theorem lw_p5 : lw_okq (⟨"LoanBook", "loanTells", "(II)J"⟩, 8) := ⟨⟨by decide +kernel, by decide +kernel⟩, List.mem_of_getElem? (i := 17) (by decide +kernel), List.mem_of_getElem? (i := 672) (by decide +kernel), List.mem_of_getElem? (i := 673) (by decide +kernel)⟩
theorem lw_p6 : lw_okq (⟨"LoanBook", "fullHolders", "()I"⟩, 8) := ⟨⟨by decide +kernel, by decide +kernel⟩, List.mem_of_getElem? (i := 17) (by decide +kernel), List.mem_of_getElem? (i := 695) (by decide +kernel), List.mem_of_getElem? (i := 696) (by decide +kernel)⟩
theorem lw_p7 : lw_okq (⟨"LoanBookModel", "sets", "(IIJ)V"⟩, 22) := ⟨⟨by decide +kernel, by decide +kernel⟩, List.mem_of_getElem? (i := 699) (by decide +kernel), List.mem_of_getElem? (i := 847) (by decide +kernel), List.mem_of_getElem? (i := 848) (by decide +kernel)⟩
theorem lw_p8 : lw_okq (⟨"LoanBookModel", "level", "(I)V"⟩, 22) := ⟨⟨by decide +kernel, by decide +kernel⟩, List.mem_of_getElem? (i := 699) (by decide +kernel), List.mem_of_getElem? (i := 851) (by decide +kernel), List.mem_of_getElem? (i := 852) (by decide +kernel)⟩
theorem lw_p9 : lw_okq (⟨"LoanBookModel", "at", "(II)J"⟩, 22) := ⟨⟨by decide +kernel, by decide +kernel⟩, List.mem_of_getElem? (i := 699) (by decide +kernel), List.mem_of_getElem? (i := 855) (by decide +kernel), List.mem_of_getElem? (i := 856) (by decide +kernel)⟩
theorem lw_p10 : lw_okq (⟨"LoanBookModel", "repays", "(IJ)Z"⟩, 22) := ⟨⟨by decide +kernel, by decide +kernel⟩, List.mem_of_getElem? (i := 699) (by decide +kernel), List.mem_of_getElem? (i := 860) (by decide +kernel), List.mem_of_getElem? (i := 861) (by decide +kernel)⟩
theorem lw_p11 : lw_okq (⟨"LoanBookModel", "periodInterest", "(IJI)J"⟩, 22) := ⟨⟨by decide +kernel, by decide +kernel⟩, List.mem_of_getElem? (i := 699) (by decide +kernel), List.mem_of_getElem? (i := 864) (by decide +kernel), List.mem_of_getElem? (i := 865) (by decide +kernel)⟩
theorem lw_p12 : lw_okq (⟨"LoanBookModel", "endOf", "(II)I"⟩, 22) := ⟨⟨by decide +kernel, by decide +kernel⟩, List.mem_of_getElem? (i := 699) (by decide +kernel), List.mem_of_getElem? (i := 868) (by decide +kernel), List.mem_of_getElem? (i := 869) (by decide +kernel)⟩
theorem lw_p13 : lw_okq (⟨"LoanBookModel", "ends", "(I)Z"⟩, 22) := ⟨⟨by decide +kernel, by decide +kernel⟩, List.mem_of_getElem? (i := 699) (by decide +kernel), List.mem_of_getElem? (i := 880) (by decide +kernel), List.mem_of_getElem? (i := 881) (by decide +kernel)⟩
theorem lw_p14 : lw_okq (⟨"LoanBookModel", "principalOf", "(IJJI)J"⟩, 22) := ⟨⟨by decide +kernel, by decide +kernel⟩, List.mem_of_getElem? (i := 699) (by decide +kernel), List.mem_of_getElem? (i := 884) (by decide +kernel), List.mem_of_getElem? (i := 885) (by decide +kernel)⟩
theorem lw_p15 : lw_okq (⟨"LoanBookModel", "fees", "(I)V"⟩, 22) := ⟨⟨by decide +kernel, by decide +kernel⟩, List.mem_of_getElem? (i := 699) (by decide +kernel), List.mem_of_getElem? (i := 888) (by decide +kernel), List.mem_of_getElem? (i := 889) (by decide +kernel)⟩
def lw_privs_1 : List (MethodName × Nat) := [(⟨"LoanBook$Loan", "isRepaidBy", "(J)Z"⟩, 19), (⟨"LoanBook$Loan", "payBill", "(IJ)J"⟩, 19), (⟨"LoanBook$Tape", "here", "()I"⟩, 5), (⟨"LoanBook$Tape", "readNumber", "(I)Z"⟩, 5), (⟨"LoanBook", "doLine", "()J"⟩, 8), (⟨"LoanBook", "loanTells", "(II)J"⟩, 8), (⟨"LoanBook", "fullHolders", "()I"⟩, 8), (⟨"LoanBookModel", "sets", "(IIJ)V"⟩, 22), (⟨"LoanBookModel", "level", "(I)V"⟩, 22), (⟨"LoanBookModel", "at", "(II)J"⟩, 22), (⟨"LoanBookModel", "repays", "(IJ)Z"⟩, 22), (⟨"LoanBookModel", "periodInterest", "(IJI)J"⟩, 22), (⟨"LoanBookModel", "endOf", "(II)I"⟩, 22), (⟨"LoanBookModel", "ends", "(I)Z"⟩, 22), (⟨"LoanBookModel", "principalOf", "(IJJI)J"⟩, 22), (⟨"LoanBookModel", "fees", "(I)V"⟩, 22)]
theorem lw_r1 : ∀ q ∈ lw_privs_1, lw_okq q := List.forall_mem_cons.mpr ⟨lw_p0, List.forall_mem_cons.mpr ⟨lw_p1, List.forall_mem_cons.mpr ⟨lw_p2, List.forall_mem_cons.mpr ⟨lw_p3, List.forall_mem_cons.mpr ⟨lw_p4, List.forall_mem_cons.mpr ⟨lw_p5, List.forall_mem_cons.mpr ⟨lw_p6, List.forall_mem_cons.mpr ⟨lw_p7, List.forall_mem_cons.mpr ⟨lw_p8, List.forall_mem_cons.mpr ⟨lw_p9, List.forall_mem_cons.mpr ⟨lw_p10, List.forall_mem_cons.mpr ⟨lw_p11, List.forall_mem_cons.mpr ⟨lw_p12, List.forall_mem_cons.mpr ⟨lw_p13, List.forall_mem_cons.mpr ⟨lw_p14, List.forall_mem_cons.mpr ⟨lw_p15, fun _ h => absurd h List.not_mem_nil⟩⟩⟩⟩⟩⟩⟩⟩⟩⟩⟩⟩⟩⟩⟩⟩
theorem lw_p16 : lw_okq (⟨"LoanBookModel", "isPaid", "(IJ)Z"⟩, 22) := ⟨⟨by decide +kernel, by decide +kernel⟩, List.mem_of_getElem? (i := 699) (by decide +kernel), List.mem_of_getElem? (i := 896) (by decide +kernel), List.mem_of_getElem? (i := 897) (by decide +kernel)⟩
theorem lw_p17 : lw_okq (⟨"LoanBookModel", "isLoan", "(I)Z"⟩, 22) := ⟨⟨by decide +kernel, by decide +kernel⟩, List.mem_of_getElem? (i := 699) (by decide +kernel), List.mem_of_getElem? (i := 900) (by decide +kernel), List.mem_of_getElem? (i := 901) (by decide +kernel)⟩
theorem lw_p18 : lw_okq (⟨"LoanBookModel", "pays", "(IJ)V"⟩, 22) := ⟨⟨by decide +kernel, by decide +kernel⟩, List.mem_of_getElem? (i := 699) (by decide +kernel), List.mem_of_getElem? (i := 905) (by decide +kernel), List.mem_of_getElem? (i := 906) (by decide +kernel)⟩
theorem lw_p19 : lw_okq (⟨"LoanBookModel", "paidOff", "(IIJ)J"⟩, 22) := ⟨⟨by decide +kernel, by decide +kernel⟩, List.mem_of_getElem? (i := 699) (by decide +kernel), List.mem_of_getElem? (i := 909) (by decide +kernel), List.mem_of_getElem? (i := 910) (by decide +kernel)⟩
theorem lw_p20 : lw_okq (⟨"LoanBookModel", "asks", "(II)J"⟩, 22) := ⟨⟨by decide +kernel, by decide +kernel⟩, List.mem_of_getElem? (i := 699) (by decide +kernel), List.mem_of_getElem? (i := 913) (by decide +kernel), List.mem_of_getElem? (i := 914) (by decide +kernel)⟩
theorem lw_p21 : lw_okq (⟨"LoanBookModel", "firstGoes", "(I)V"⟩, 22) := ⟨⟨by decide +kernel, by decide +kernel⟩, List.mem_of_getElem? (i := 699) (by decide +kernel), List.mem_of_getElem? (i := 917) (by decide +kernel), List.mem_of_getElem? (i := 918) (by decide +kernel)⟩
theorem lw_p22 : lw_okq (⟨"LoanBookModel", "owed", "(I)J"⟩, 22) := ⟨⟨by decide +kernel, by decide +kernel⟩, List.mem_of_getElem? (i := 699) (by decide +kernel), List.mem_of_getElem? (i := 944) (by decide +kernel), List.mem_of_getElem? (i := 945) (by decide +kernel)⟩
theorem lw_p23 : lw_okq (⟨"LoanBookModel", "comes", "(I)V"⟩, 22) := ⟨⟨by decide +kernel, by decide +kernel⟩, List.mem_of_getElem? (i := 699) (by decide +kernel), List.mem_of_getElem? (i := 948) (by decide +kernel), List.mem_of_getElem? (i := 949) (by decide +kernel)⟩
theorem lw_p24 : lw_okq (⟨"LoanBookModel", "nth", "(I)I"⟩, 22) := ⟨⟨by decide +kernel, by decide +kernel⟩, List.mem_of_getElem? (i := 699) (by decide +kernel), List.mem_of_getElem? (i := 961) (by decide +kernel), List.mem_of_getElem? (i := 962) (by decide +kernel)⟩
theorem lw_p25 : lw_okq (⟨"LoanBookModel", "flow", "(I)J"⟩, 22) := ⟨⟨by decide +kernel, by decide +kernel⟩, List.mem_of_getElem? (i := 699) (by decide +kernel), List.mem_of_getElem? (i := 965) (by decide +kernel), List.mem_of_getElem? (i := 966) (by decide +kernel)⟩
theorem lw_p26 : lw_okq (⟨"LoanBookModel", "valueOf", "(DZ)D"⟩, 22) := ⟨⟨by decide +kernel, by decide +kernel⟩, List.mem_of_getElem? (i := 699) (by decide +kernel), List.mem_of_getElem? (i := 984) (by decide +kernel), List.mem_of_getElem? (i := 985) (by decide +kernel)⟩
theorem lw_p27 : lw_okq (⟨"LoanBookModel", "yields", "(J)D"⟩, 22) := ⟨⟨by decide +kernel, by decide +kernel⟩, List.mem_of_getElem? (i := 699) (by decide +kernel), List.mem_of_getElem? (i := 1002) (by decide +kernel), List.mem_of_getElem? (i := 1003) (by decide +kernel)⟩
theorem lw_p28 : lw_okq (⟨"LoanBookModel", "lastPrincipal", "(I)I"⟩, 22) := ⟨⟨by decide +kernel, by decide +kernel⟩, List.mem_of_getElem? (i := 699) (by decide +kernel), List.mem_of_getElem? (i := 1045) (by decide +kernel), List.mem_of_getElem? (i := 1046) (by decide +kernel)⟩
theorem lw_p29 : lw_okq (⟨"LoanBookModel", "isHolder", "(I)Z"⟩, 22) := ⟨⟨by decide +kernel, by decide +kernel⟩, List.mem_of_getElem? (i := 699) (by decide +kernel), List.mem_of_getElem? (i := 1053) (by decide +kernel), List.mem_of_getElem? (i := 1054) (by decide +kernel)⟩
theorem lw_p30 : lw_okq (⟨"LoanBookModel", "isForm", "()Z"⟩, 22) := ⟨⟨by decide +kernel, by decide +kernel⟩, List.mem_of_getElem? (i := 699) (by decide +kernel), List.mem_of_getElem? (i := 1066) (by decide +kernel), List.mem_of_getElem? (i := 1067) (by decide +kernel)⟩
theorem lw_p31 : lw_okq (⟨"LoanBookModel", "line", "()I"⟩, 22) := ⟨⟨by decide +kernel, by decide +kernel⟩, List.mem_of_getElem? (i := 699) (by decide +kernel), List.mem_of_getElem? (i := 1070) (by decide +kernel), List.mem_of_getElem? (i := 1071) (by decide +kernel)⟩
def lw_privs_2 : List (MethodName × Nat) := [(⟨"LoanBookModel", "isPaid", "(IJ)Z"⟩, 22), (⟨"LoanBookModel", "isLoan", "(I)Z"⟩, 22), (⟨"LoanBookModel", "pays", "(IJ)V"⟩, 22), (⟨"LoanBookModel", "paidOff", "(IIJ)J"⟩, 22), (⟨"LoanBookModel", "asks", "(II)J"⟩, 22), (⟨"LoanBookModel", "firstGoes", "(I)V"⟩, 22), (⟨"LoanBookModel", "owed", "(I)J"⟩, 22), (⟨"LoanBookModel", "comes", "(I)V"⟩, 22), (⟨"LoanBookModel", "nth", "(I)I"⟩, 22), (⟨"LoanBookModel", "flow", "(I)J"⟩, 22), (⟨"LoanBookModel", "valueOf", "(DZ)D"⟩, 22), (⟨"LoanBookModel", "yields", "(J)D"⟩, 22), (⟨"LoanBookModel", "lastPrincipal", "(I)I"⟩, 22), (⟨"LoanBookModel", "isHolder", "(I)Z"⟩, 22), (⟨"LoanBookModel", "isForm", "()Z"⟩, 22), (⟨"LoanBookModel", "line", "()I"⟩, 22)]
theorem lw_r2 : ∀ q ∈ lw_privs_2, lw_okq q := List.forall_mem_cons.mpr ⟨lw_p16, List.forall_mem_cons.mpr ⟨lw_p17, List.forall_mem_cons.mpr ⟨lw_p18, List.forall_mem_cons.mpr ⟨lw_p19, List.forall_mem_cons.mpr ⟨lw_p20, List.forall_mem_cons.mpr ⟨lw_p21, List.forall_mem_cons.mpr ⟨lw_p22, List.forall_mem_cons.mpr ⟨lw_p23, List.forall_mem_cons.mpr ⟨lw_p24, List.forall_mem_cons.mpr ⟨lw_p25, List.forall_mem_cons.mpr ⟨lw_p26, List.forall_mem_cons.mpr ⟨lw_p27, List.forall_mem_cons.mpr ⟨lw_p28, List.forall_mem_cons.mpr ⟨lw_p29, List.forall_mem_cons.mpr ⟨lw_p30, List.forall_mem_cons.mpr ⟨lw_p31, fun _ h => absurd h List.not_mem_nil⟩⟩⟩⟩⟩⟩⟩⟩⟩⟩⟩⟩⟩⟩⟩⟩
theorem lw_p32 : lw_okq (⟨"LoanBookModel", "number", "()I"⟩, 22) := ⟨⟨by decide +kernel, by decide +kernel⟩, List.mem_of_getElem? (i := 699) (by decide +kernel), List.mem_of_getElem? (i := 1077) (by decide +kernel), List.mem_of_getElem? (i := 1078) (by decide +kernel)⟩
theorem lw_p33 : lw_okq (⟨"LoanBookModel", "must", "(II)I"⟩, 22) := ⟨⟨by decide +kernel, by decide +kernel⟩, List.mem_of_getElem? (i := 699) (by decide +kernel), List.mem_of_getElem? (i := 1081) (by decide +kernel), List.mem_of_getElem? (i := 1082) (by decide +kernel)⟩
theorem lw_p34 : lw_okq (⟨"LoanBookModel", "sees", "(II)Z"⟩, 22) := ⟨⟨by decide +kernel, by decide +kernel⟩, List.mem_of_getElem? (i := 699) (by decide +kernel), List.mem_of_getElem? (i := 1085) (by decide +kernel), List.mem_of_getElem? (i := 1086) (by decide +kernel)⟩
theorem lw_p35 : lw_okq (⟨"LoanBookModel", "does", "(I)J"⟩, 22) := ⟨⟨by decide +kernel, by decide +kernel⟩, List.mem_of_getElem? (i := 699) (by decide +kernel), List.mem_of_getElem? (i := 1089) (by decide +kernel), List.mem_of_getElem? (i := 1090) (by decide +kernel)⟩
theorem lw_p36 : lw_okq (⟨"LoanBookModel", "bills", "()I"⟩, 22) := ⟨⟨by decide +kernel, by decide +kernel⟩, List.mem_of_getElem? (i := 699) (by decide +kernel), List.mem_of_getElem? (i := 1129) (by decide +kernel), List.mem_of_getElem? (i := 1130) (by decide +kernel)⟩
def lw_privs_3 : List (MethodName × Nat) := [(⟨"LoanBookModel", "number", "()I"⟩, 22), (⟨"LoanBookModel", "must", "(II)I"⟩, 22), (⟨"LoanBookModel", "sees", "(II)Z"⟩, 22), (⟨"LoanBookModel", "does", "(I)J"⟩, 22), (⟨"LoanBookModel", "bills", "()I"⟩, 22)]
theorem lw_r3 : ∀ q ∈ lw_privs_3, lw_okq q := List.forall_mem_cons.mpr ⟨lw_p32, List.forall_mem_cons.mpr ⟨lw_p33, List.forall_mem_cons.mpr ⟨lw_p34, List.forall_mem_cons.mpr ⟨lw_p35, List.forall_mem_cons.mpr ⟨lw_p36, fun _ h => absurd h List.not_mem_nil⟩⟩⟩⟩⟩
def lw_privs : List (MethodName × Nat) := lw_privs_1 ++ (lw_privs_2 ++ (lw_privs_3))
def lw_tbl : List Cond := k2_sels lw_privs ++ tables_1
theorem lw_privs_ok : ∀ q ∈ lw_privs, lw_okq q := by
  show ∀ q ∈ lw_privs_1 ++ (lw_privs_2 ++ (lw_privs_3)), lw_okq q
  exact List.forall_mem_append.mpr ⟨lw_r1, List.forall_mem_append.mpr ⟨lw_r2, lw_r3⟩⟩
/-- the streams that the claim lets the run draw from -/
abbrev lw_cs : List Choice := [Jvm.Choice.named "NaN.bits", Jvm.Choice.named "NaN.copy"]
theorem lw_bits : nanBits ∈ lw_cs := by first | decide | exact List.mem_cons_self | simp [lw_cs, nanBits]
def RX0 : String := "LoanBook$Bits"
def TX0 : u_T := fun k => match k with
  | _ => ("", "", "", false)
def tyX0 : Nat → FieldType := fun k => match k with
  | _ => .int
abbrev wsX00 : List Cond := u_ws RX0 TX0 0
theorem nmX0 : ∀ a, a < 0 → ∀ b, b < 0 → a ≠ b → (TX0 a).2.1 ≠ (TX0 b).2.1 := by decide +kernel
theorem tyX0_ok : ∀ k, k < 0 → parseFieldDescriptor (TX0 k).2.2.1 = some (tyX0 k) := by decide +kernel
abbrev cX0_isRateOfPeriod : ByteArray := prog_2_method_2_code
def yX0_isRateOfPeriod : MethodName := ⟨RX0, "isRateOfPeriod", "(J)Z"⟩
abbrev cX0_toDouble : ByteArray := prog_2_method_3_code
def yX0_toDouble : MethodName := ⟨RX0, "toDouble", "(J)D"⟩
abbrev cX0_ofDouble : ByteArray := prog_2_method_4_code
def yX0_ofDouble : MethodName := ⟨RX0, "ofDouble", "(D)J"⟩
abbrev cX0_ofFloat : ByteArray := prog_2_method_5_code
def yX0_ofFloat : MethodName := ⟨RX0, "ofFloat", "(F)I"⟩
def RX1 : String := "LoanBook$Book"
def TX1 : u_T := fun k => match k with
  | 0 => ("LoanBook$Book", "day", "I", false)
  | 1 => ("LoanBook$Book", "grace", "I", false)
  | 2 => ("LoanBook$Book", "lateFee", "I", false)
  | 3 => ("LoanBook$Book", "size", "I", false)
  | _ => ("LoanBook$Book", "loans", "[LLoanBook$Loan;", true)
def tyX1 : Nat → FieldType := fun k => match k with
  | 0 => .int
  | 1 => .int
  | 2 => .int
  | 3 => .int
  | _ => .array (.object "LoanBook$Loan")
abbrev wsX10 : List Cond := u_ws RX1 TX1 5
theorem nmX1 : ∀ a, a < 5 → ∀ b, b < 5 → a ≠ b → (TX1 a).2.1 ≠ (TX1 b).2.1 := by decide +kernel
theorem tyX1_ok : ∀ k, k < 5 → parseFieldDescriptor (TX1 k).2.2.1 = some (tyX1 k) := by decide +kernel
abbrev cX1_init : ByteArray := prog_3_method_1_code
def yX1_init : MethodName := ⟨RX1, "<init>", "()V"⟩
abbrev cX1_copyFrom : ByteArray := prog_3_method_2_code
def yX1_copyFrom : MethodName := ⟨RX1, "copyFrom", "(LLoanBook$Book;)V"⟩
abbrev cX1_has : ByteArray := prog_3_method_3_code
def yX1_has : MethodName := ⟨RX1, "has", "(I)Z"⟩
abbrev cX1_lend : ByteArray := prog_3_method_4_code
def yX1_lend : MethodName := ⟨RX1, "lend", "(JIIIII)I"⟩
abbrev cX1_passDays : ByteArray := prog_3_method_5_code
def yX1_passDays : MethodName := ⟨RX1, "passDays", "(I)I"⟩
abbrev cX1_billsInArrears : ByteArray := prog_3_method_6_code
def yX1_billsInArrears : MethodName := ⟨RX1, "billsInArrears", "()I"⟩
abbrev cX1_settledLoans : ByteArray := prog_3_method_7_code
def yX1_settledLoans : MethodName := ⟨RX1, "settledLoans", "()I"⟩
def RX2 : String := "LoanBook$Dates"
def TX2 : u_T := fun k => match k with
  | _ => ("", "", "", false)
def tyX2 : Nat → FieldType := fun k => match k with
  | _ => .int
abbrev wsX20 : List Cond := u_ws RX2 TX2 0
theorem nmX2 : ∀ a, a < 0 → ∀ b, b < 0 → a ≠ b → (TX2 a).2.1 ≠ (TX2 b).2.1 := by decide +kernel
theorem tyX2_ok : ∀ k, k < 0 → parseFieldDescriptor (TX2 k).2.2.1 = some (tyX2 k) := by decide +kernel
abbrev cX2_firstOf : ByteArray := prog_4_method_2_code
def yX2_firstOf : MethodName := ⟨RX2, "firstOf", "(I)I"⟩
abbrev cX2_lengthOf : ByteArray := prog_4_method_3_code
def yX2_lengthOf : MethodName := ⟨RX2, "lengthOf", "(I)I"⟩
abbrev cX2_monthOf : ByteArray := prog_4_method_4_code
def yX2_monthOf : MethodName := ⟨RX2, "monthOf", "(I)I"⟩
abbrev cX2_partsBetween : ByteArray := prog_4_method_5_code
def yX2_partsBetween : MethodName := ⟨RX2, "partsBetween", "(III)J"⟩
abbrev cX2_cents : ByteArray := prog_4_method_6_code
def yX2_cents : MethodName := ⟨RX2, "cents", "(JIJ)J"⟩
abbrev cX2_thirties : ByteArray := prog_4_method_7_code
def yX2_thirties : MethodName := ⟨RX2, "thirties", "(I)I"⟩
abbrev cX2_leapYearDays : ByteArray := prog_4_method_8_code
def yX2_leapYearDays : MethodName := ⟨RX2, "leapYearDays", "(I)I"⟩
def RX3 : String := "LoanBook$Holder"
def TX3 : u_T := fun k => match k with
  | 0 => ("LoanBook$Holder", "sort", "I", false)
  | 1 => ("LoanBook$Holder", "number", "I", false)
  | 2 => ("LoanBook$Holder", "size", "I", false)
  | 3 => ("LoanBook$Holder", "asks", "J", false)
  | _ => ("LoanBook$Holder", "items", "[J", true)
def tyX3 : Nat → FieldType := fun k => match k with
  | 0 => .int
  | 1 => .int
  | 2 => .int
  | 3 => .long
  | _ => .array .long
abbrev wsX30 : List Cond := u_ws RX3 TX3 5
theorem nmX3 : ∀ a, a < 5 → ∀ b, b < 5 → a ≠ b → (TX3 a).2.1 ≠ (TX3 b).2.1 := by decide +kernel
theorem tyX3_ok : ∀ k, k < 5 → parseFieldDescriptor (TX3 k).2.2.1 = some (tyX3 k) := by decide +kernel
abbrev cX3_init : ByteArray := prog_5_method_1_code
def yX3_init : MethodName := ⟨RX3, "<init>", "()V"⟩
abbrev cX3_takeLoan : ByteArray := prog_5_method_2_code
def yX3_takeLoan : MethodName := ⟨RX3, "takeLoan", "(I)V"⟩
abbrev cX3_takeBill : ByteArray := prog_5_method_3_code
def yX3_takeBill : MethodName := ⟨RX3, "takeBill", "(IJ)V"⟩
abbrev cX3_takeRow : ByteArray := prog_5_method_4_code
def yX3_takeRow : MethodName := ⟨RX3, "takeRow", "(I)V"⟩
def RX4 : String := "LoanBook$Loan"
def TX4 : u_T := fun k => match k with
  | 0 => ("LoanBook$Loan", "lent", "J", false)
  | 1 => ("LoanBook$Loan", "balance", "J", false)
  | 2 => ("LoanBook$Loan", "level", "J", false)
  | 3 => ("LoanBook$Loan", "feesGot", "J", false)
  | 4 => ("LoanBook$Loan", "interestGot", "J", false)
  | 5 => ("LoanBook$Loan", "principalGot", "J", false)
  | 6 => ("LoanBook$Loan", "lost", "J", false)
  | 7 => ("LoanBook$Loan", "rate", "I", false)
  | 8 => ("LoanBook$Loan", "dayCount", "I", false)
  | 9 => ("LoanBook$Loan", "kind", "I", false)
  | 10 => ("LoanBook$Loan", "mode", "I", false)
  | 11 => ("LoanBook$Loan", "periods", "I", false)
  | 12 => ("LoanBook$Loan", "done", "I", false)
  | 13 => ("LoanBook$Loan", "ends", "[I", true)
  | 14 => ("LoanBook$Loan", "parts", "[J", true)
  | 15 => ("LoanBook$Loan", "feeDue", "[J", true)
  | 16 => ("LoanBook$Loan", "interestDue", "[J", true)
  | 17 => ("LoanBook$Loan", "principalDue", "[J", true)
  | _ => ("LoanBook$Loan", "hadFee", "[Z", true)
def tyX4 : Nat → FieldType := fun k => match k with
  | 0 => .long
  | 1 => .long
  | 2 => .long
  | 3 => .long
  | 4 => .long
  | 5 => .long
  | 6 => .long
  | 7 => .int
  | 8 => .int
  | 9 => .int
  | 10 => .int
  | 11 => .int
  | 12 => .int
  | 13 => .array .int
  | 14 => .array .long
  | 15 => .array .long
  | 16 => .array .long
  | 17 => .array .long
  | _ => .array .boolean
abbrev wsX40 : List Cond := u_ws RX4 TX4 19
theorem nmX4 : ∀ a, a < 19 → ∀ b, b < 19 → a ≠ b → (TX4 a).2.1 ≠ (TX4 b).2.1 := by decide +kernel
theorem tyX4_ok : ∀ k, k < 19 → parseFieldDescriptor (TX4 k).2.2.1 = some (tyX4 k) := by decide +kernel
abbrev cX4_init : ByteArray := prog_6_method_1_code
def yX4_init : MethodName := ⟨RX4, "<init>", "()V"⟩
abbrev cX4_copyFrom : ByteArray := prog_6_method_2_code
def yX4_copyFrom : MethodName := ⟨RX4, "copyFrom", "(LLoanBook$Loan;)V"⟩
abbrev cX4_clear : ByteArray := prog_6_method_3_code
def yX4_clear : MethodName := ⟨RX4, "clear", "()V"⟩
abbrev cX4_clearArrears : ByteArray := prog_6_method_4_code
def yX4_clearArrears : MethodName := ⟨RX4, "clearArrears", "()V"⟩
abbrev cX4_layPeriods : ByteArray := prog_6_method_5_code
def yX4_layPeriods : MethodName := ⟨RX4, "layPeriods", "(I)V"⟩
abbrev cX4_interestOf : ByteArray := prog_6_method_6_code
def yX4_interestOf : MethodName := ⟨RX4, "interestOf", "(IJ)J"⟩
abbrev cX4_principalOf : ByteArray := prog_6_method_7_code
def yX4_principalOf : MethodName := ⟨RX4, "principalOf", "(IJJ)J"⟩
abbrev cX4_repaidBy : ByteArray := prog_6_method_8_code
def yX4_repaidBy : MethodName := ⟨RX4, "repaidBy", "(JJJ)J"⟩
abbrev cX4_findLevel : ByteArray := prog_6_method_9_code
def yX4_findLevel : MethodName := ⟨RX4, "findLevel", "()V"⟩
abbrev cX4_isRepaidBy : ByteArray := prog_6_method_10_code
def yX4_isRepaidBy : MethodName := ⟨RX4, "isRepaidBy", "(J)Z"⟩
abbrev cX4_endPeriods : ByteArray := prog_6_method_11_code
def yX4_endPeriods : MethodName := ⟨RX4, "endPeriods", "(I)I"⟩
abbrev cX4_chargeLate : ByteArray := prog_6_method_12_code
def yX4_chargeLate : MethodName := ⟨RX4, "chargeLate", "(IIII)V"⟩
abbrev cX4_receive : ByteArray := prog_6_method_13_code
def yX4_receive : MethodName := ⟨RX4, "receive", "(J)J"⟩
abbrev cX4_payBill : ByteArray := prog_6_method_14_code
def yX4_payBill : MethodName := ⟨RX4, "payBill", "(IJ)J"⟩
abbrev cX4_giveUp : ByteArray := prog_6_method_15_code
def yX4_giveUp : MethodName := ⟨RX4, "giveUp", "()J"⟩
abbrev cX4_asks : ByteArray := prog_6_method_16_code
def yX4_asks : MethodName := ⟨RX4, "asks", "(I)J"⟩
abbrev cX4_owed : ByteArray := prog_6_method_17_code
def yX4_owed : MethodName := ⟨RX4, "owed", "()J"⟩
abbrev cX4_isSettled : ByteArray := prog_6_method_18_code
def yX4_isSettled : MethodName := ⟨RX4, "isSettled", "()Z"⟩
abbrev cX4_billsInArrears : ByteArray := prog_6_method_19_code
def yX4_billsInArrears : MethodName := ⟨RX4, "billsInArrears", "()I"⟩
abbrev cX4_periodOfBill : ByteArray := prog_6_method_20_code
def yX4_periodOfBill : MethodName := ⟨RX4, "periodOfBill", "(I)I"⟩
abbrev cX4_daysLate : ByteArray := prog_6_method_21_code
def yX4_daysLate : MethodName := ⟨RX4, "daysLate", "(I)I"⟩
def RX5 : String := "LoanBook$Plan"
def TX5 : u_T := fun k => match k with
  | 0 => ("LoanBook$Plan", "done", "I", false)
  | 1 => ("LoanBook$Plan", "periods", "I", false)
  | 2 => ("LoanBook$Plan", "interest", "[J", true)
  | 3 => ("LoanBook$Plan", "principal", "[J", true)
  | _ => ("LoanBook$Plan", "balance", "[J", true)
def tyX5 : Nat → FieldType := fun k => match k with
  | 0 => .int
  | 1 => .int
  | 2 => .array .long
  | 3 => .array .long
  | _ => .array .long
abbrev wsX50 : List Cond := u_ws RX5 TX5 5
theorem nmX5 : ∀ a, a < 5 → ∀ b, b < 5 → a ≠ b → (TX5 a).2.1 ≠ (TX5 b).2.1 := by decide +kernel
theorem tyX5_ok : ∀ k, k < 5 → parseFieldDescriptor (TX5 k).2.2.1 = some (tyX5 k) := by decide +kernel
abbrev cX5_init : ByteArray := prog_7_method_1_code
def yX5_init : MethodName := ⟨RX5, "<init>", "()V"⟩
abbrev cX5_follow : ByteArray := prog_7_method_2_code
def yX5_follow : MethodName := ⟨RX5, "follow", "(LLoanBook$Loan;)V"⟩
abbrev cX5_flow : ByteArray := prog_7_method_3_code
def yX5_flow : MethodName := ⟨RX5, "flow", "(I)J"⟩
abbrev cX5_bills : ByteArray := prog_7_method_4_code
def yX5_bills : MethodName := ⟨RX5, "bills", "()I"⟩
abbrev cX5_periodOfBill : ByteArray := prog_7_method_5_code
def yX5_periodOfBill : MethodName := ⟨RX5, "periodOfBill", "(I)I"⟩
abbrev cX5_totalInterest : ByteArray := prog_7_method_6_code
def yX5_totalInterest : MethodName := ⟨RX5, "totalInterest", "()J"⟩
abbrev cX5_greatestFlow : ByteArray := prog_7_method_7_code
def yX5_greatestFlow : MethodName := ⟨RX5, "greatestFlow", "()J"⟩
abbrev cX5_lastWithPrincipal : ByteArray := prog_7_method_8_code
def yX5_lastWithPrincipal : MethodName := ⟨RX5, "lastWithPrincipal", "()I"⟩
abbrev cX5_worth : ByteArray := prog_7_method_9_code
def yX5_worth : MethodName := ⟨RX5, "worth", "(D)D"⟩
abbrev cX5_worthByNumber : ByteArray := prog_7_method_10_code
def yX5_worthByNumber : MethodName := ⟨RX5, "worthByNumber", "(D)D"⟩
abbrev cX5_yieldBy : ByteArray := prog_7_method_11_code
def yX5_yieldBy : MethodName := ⟨RX5, "yieldBy", "(D)D"⟩
def RX6 : String := "LoanBook$Tape"
def TX6 : u_T := fun k => match k with
  | 0 => ("LoanBook$Tape", "length", "I", false)
  | 1 => ("LoanBook$Tape", "place", "I", false)
  | 2 => ("LoanBook$Tape", "letter", "I", false)
  | 3 => ("LoanBook$Tape", "bytes", "[I", true)
  | _ => ("LoanBook$Tape", "numbers", "[I", true)
def tyX6 : Nat → FieldType := fun k => match k with
  | 0 => .int
  | 1 => .int
  | 2 => .int
  | 3 => .array .int
  | _ => .array .int
abbrev wsX60 : List Cond := u_ws RX6 TX6 5
theorem nmX6 : ∀ a, a < 5 → ∀ b, b < 5 → a ≠ b → (TX6 a).2.1 ≠ (TX6 b).2.1 := by decide +kernel
theorem tyX6_ok : ∀ k, k < 5 → parseFieldDescriptor (TX6 k).2.2.1 = some (tyX6 k) := by decide +kernel
abbrev cX6_init : ByteArray := prog_8_method_1_code
def yX6_init : MethodName := ⟨RX6, "<init>", "()V"⟩
abbrev cX6_placeOfFault : ByteArray := prog_8_method_2_code
def yX6_placeOfFault : MethodName := ⟨RX6, "placeOfFault", "()I"⟩
abbrev cX6_readLine : ByteArray := prog_8_method_3_code
def yX6_readLine : MethodName := ⟨RX6, "readLine", "()Z"⟩
abbrev cX6_readNumber : ByteArray := prog_8_method_4_code
def yX6_readNumber : MethodName := ⟨RX6, "readNumber", "(I)Z"⟩
abbrev cX6_here : ByteArray := prog_8_method_5_code
def yX6_here : MethodName := ⟨RX6, "here", "()I"⟩
abbrev cX6_numbersOf : ByteArray := prog_8_method_6_code
def yX6_numbersOf : MethodName := ⟨RX6, "numbersOf", "(I)I"⟩
def RX7 : String := "LoanBook"
def TX7 : u_T := fun k => match k with
  | 0 => ("LoanBook", "book", "LLoanBook$Book;", true)
  | 1 => ("LoanBook", "ahead", "LLoanBook$Book;", true)
  | 2 => ("LoanBook", "kept", "LLoanBook$Book;", true)
  | 3 => ("LoanBook", "isKept", "Z", false)
  | 4 => ("LoanBook", "thought", "LLoanBook$Loan;", true)
  | 5 => ("LoanBook", "plan", "LLoanBook$Plan;", true)
  | 6 => ("LoanBook", "tape", "LLoanBook$Tape;", true)
  | _ => ("LoanBook", "holders", "[LLoanBook$Holder;", true)
def tyX7 : Nat → FieldType := fun k => match k with
  | 0 => .object "LoanBook$Book"
  | 1 => .object "LoanBook$Book"
  | 2 => .object "LoanBook$Book"
  | 3 => .boolean
  | 4 => .object "LoanBook$Loan"
  | 5 => .object "LoanBook$Plan"
  | 6 => .object "LoanBook$Tape"
  | _ => .array (.object "LoanBook$Holder")
abbrev wsX70 : List Cond := u_ws RX7 TX7 8
theorem nmX7 : ∀ a, a < 8 → ∀ b, b < 8 → a ≠ b → (TX7 a).2.1 ≠ (TX7 b).2.1 := by decide +kernel
theorem tyX7_ok : ∀ k, k < 8 → parseFieldDescriptor (TX7 k).2.2.1 = some (tyX7 k) := by decide +kernel
abbrev cX7_init : ByteArray := prog_1_method_1_code
def yX7_init : MethodName := ⟨RX7, "<init>", "()V"⟩
abbrev cX7_date : ByteArray := prog_1_method_2_code
def yX7_date : MethodName := ⟨RX7, "date", "(II)I"⟩
abbrev cX7_dayOf : ByteArray := prog_1_method_3_code
def yX7_dayOf : MethodName := ⟨RX7, "dayOf", "(III)I"⟩
abbrev cX7_interest : ByteArray := prog_1_method_4_code
def yX7_interest : MethodName := ⟨RX7, "interest", "(JIIII)J"⟩
abbrev cX7_loan : ByteArray := prog_1_method_5_code
def yX7_loan : MethodName := ⟨RX7, "loan", "(JIII)I"⟩
abbrev cX7_days : ByteArray := prog_1_method_6_code
def yX7_days : MethodName := ⟨RX7, "days", "(I)I"⟩
abbrev cX7_pay : ByteArray := prog_1_method_7_code
def yX7_pay : MethodName := ⟨RX7, "pay", "(IJ)J"⟩
abbrev cX7_reset : ByteArray := prog_1_method_8_code
def yX7_reset : MethodName := ⟨RX7, "reset", "(II)J"⟩
abbrev cX7_writeOff : ByteArray := prog_1_method_9_code
def yX7_writeOff : MethodName := ⟨RX7, "writeOff", "(I)J"⟩
abbrev cX7_rule : ByteArray := prog_1_method_10_code
def yX7_rule : MethodName := ⟨RX7, "rule", "(II)I"⟩
abbrev cX7_of : ByteArray := prog_1_method_11_code
def yX7_of : MethodName := ⟨RX7, "of", "(II)I"⟩
abbrev cX7_sum : ByteArray := prog_1_method_12_code
def yX7_sum : MethodName := ⟨RX7, "sum", "(II)J"⟩
abbrev cX7_bill : ByteArray := prog_1_method_13_code
def yX7_bill : MethodName := ⟨RX7, "bill", "(III)J"⟩
abbrev cX7_toCome : ByteArray := prog_1_method_14_code
def yX7_toCome : MethodName := ⟨RX7, "toCome", "(III)J"⟩
abbrev cX7_coming : ByteArray := prog_1_method_15_code
def yX7_coming : MethodName := ⟨RX7, "coming", "(II)J"⟩
abbrev cX7_value : ByteArray := prog_1_method_16_code
def yX7_value : MethodName := ⟨RX7, "value", "(IJ)J"⟩
abbrev cX7_yieldOf : ByteArray := prog_1_method_17_code
def yX7_yieldOf : MethodName := ⟨RX7, "yieldOf", "(IJ)J"⟩
abbrev cX7_near : ByteArray := prog_1_method_18_code
def yX7_near : MethodName := ⟨RX7, "near", "(IJ)I"⟩
abbrev cX7_duration : ByteArray := prog_1_method_19_code
def yX7_duration : MethodName := ⟨RX7, "duration", "(IJ)J"⟩
abbrev cX7_behind : ByteArray := prog_1_method_20_code
def yX7_behind : MethodName := ⟨RX7, "behind", "(I)I"⟩
abbrev cX7_settles : ByteArray := prog_1_method_21_code
def yX7_settles : MethodName := ⟨RX7, "settles", "(I)I"⟩
abbrev cX7_would : ByteArray := prog_1_method_22_code
def yX7_would : MethodName := ⟨RX7, "would", "(IJI)J"⟩
abbrev cX7_sooner : ByteArray := prog_1_method_23_code
def yX7_sooner : MethodName := ⟨RX7, "sooner", "(IJ)I"⟩
abbrev cX7_judge : ByteArray := prog_1_method_24_code
def yX7_judge : MethodName := ⟨RX7, "judge", "(II)I"⟩
abbrev cX7_feed : ByteArray := prog_1_method_25_code
def yX7_feed : MethodName := ⟨RX7, "feed", "(I)I"⟩
abbrev cX7_script : ByteArray := prog_1_method_26_code
def yX7_script : MethodName := ⟨RX7, "script", "()I"⟩
abbrev cX7_image : ByteArray := prog_1_method_27_code
def yX7_image : MethodName := ⟨RX7, "image", "()I"⟩
abbrev cX7_back : ByteArray := prog_1_method_28_code
def yX7_back : MethodName := ⟨RX7, "back", "()I"⟩
abbrev cX7_hold : ByteArray := prog_1_method_29_code
def yX7_hold : MethodName := ⟨RX7, "hold", "(III)I"⟩
abbrev cX7_row : ByteArray := prog_1_method_30_code
def yX7_row : MethodName := ⟨RX7, "row", "(II)I"⟩
abbrev cX7_put : ByteArray := prog_1_method_31_code
def yX7_put : MethodName := ⟨RX7, "put", "(IIJ)I"⟩
abbrev cX7_tells : ByteArray := prog_1_method_32_code
def yX7_tells : MethodName := ⟨RX7, "tells", "(II)J"⟩
abbrev cX7_count : ByteArray := prog_1_method_33_code
def yX7_count : MethodName := ⟨RX7, "count", "(I)I"⟩
abbrev cX7_isWithin : ByteArray := prog_1_method_34_code
def yX7_isWithin : MethodName := ⟨RX7, "isWithin", "(III)Z"⟩
abbrev cX7_isDay : ByteArray := prog_1_method_35_code
def yX7_isDay : MethodName := ⟨RX7, "isDay", "(I)Z"⟩
abbrev cX7_isRate : ByteArray := prog_1_method_36_code
def yX7_isRate : MethodName := ⟨RX7, "isRate", "(I)Z"⟩
abbrev cX7_isAmount : ByteArray := prog_1_method_37_code
def yX7_isAmount : MethodName := ⟨RX7, "isAmount", "(J)Z"⟩
abbrev cX7_isHolder : ByteArray := prog_1_method_38_code
def yX7_isHolder : MethodName := ⟨RX7, "isHolder", "(I)Z"⟩
abbrev cX7_fullHolders : ByteArray := prog_1_method_39_code
def yX7_fullHolders : MethodName := ⟨RX7, "fullHolders", "()I"⟩
abbrev cX7_loanTells : ByteArray := prog_1_method_40_code
def yX7_loanTells : MethodName := ⟨RX7, "loanTells", "(II)J"⟩
abbrev cX7_billTells : ByteArray := prog_1_method_41_code
def yX7_billTells : MethodName := ⟨RX7, "billTells", "(LLoanBook$Holder;I)J"⟩
abbrev cX7_doLine : ByteArray := prog_1_method_42_code
def yX7_doLine : MethodName := ⟨RX7, "doLine", "()J"⟩
def RX8 : String := "LoanBookModel"
def TX8 : u_T := fun k => match k with
  | 0 => ("LoanBookModel", "g", "[J", true)
  | 1 => ("LoanBookModel", "saved", "[J", true)
  | 2 => ("LoanBookModel", "whole", "[J", true)
  | 3 => ("LoanBookModel", "kept", "[J", true)
  | 4 => ("LoanBookModel", "isKept", "Z", false)
  | 5 => ("LoanBookModel", "comesDay", "[I", true)
  | 6 => ("LoanBookModel", "comesInterest", "[J", true)
  | 7 => ("LoanBookModel", "comesPrincipal", "[J", true)
  | 8 => ("LoanBookModel", "comesBalance", "[J", true)
  | 9 => ("LoanBookModel", "left", "I", false)
  | 10 => ("LoanBookModel", "split", "[J", true)
  | 11 => ("LoanBookModel", "tape", "[I", true)
  | 12 => ("LoanBookModel", "tapeMany", "I", false)
  | 13 => ("LoanBookModel", "held", "[I", true)
  | 14 => ("LoanBookModel", "heldLoan", "[I", true)
  | 15 => ("LoanBookModel", "heldDay", "[J", true)
  | 16 => ("LoanBookModel", "heldAsk", "[J", true)
  | 17 => ("LoanBookModel", "rowSize", "[I", true)
  | 18 => ("LoanBookModel", "rows", "[[J", true)
  | 19 => ("LoanBookModel", "spot", "I", false)
  | 20 => ("LoanBookModel", "fault", "I", false)
  | _ => ("LoanBookModel", "told", "[I", true)
def tyX8 : Nat → FieldType := fun k => match k with
  | 0 => .array .long
  | 1 => .array .long
  | 2 => .array .long
  | 3 => .array .long
  | 4 => .boolean
  | 5 => .array .int
  | 6 => .array .long
  | 7 => .array .long
  | 8 => .array .long
  | 9 => .int
  | 10 => .array .long
  | 11 => .array .int
  | 12 => .int
  | 13 => .array .int
  | 14 => .array .int
  | 15 => .array .long
  | 16 => .array .long
  | 17 => .array .int
  | 18 => .array (.array .long)
  | 19 => .int
  | 20 => .int
  | _ => .array .int
abbrev wsX80 : List Cond := u_ws RX8 TX8 22
theorem nmX8 : ∀ a, a < 22 → ∀ b, b < 22 → a ≠ b → (TX8 a).2.1 ≠ (TX8 b).2.1 := by decide +kernel
theorem tyX8_ok : ∀ k, k < 22 → parseFieldDescriptor (TX8 k).2.2.1 = some (tyX8 k) := by decide +kernel
abbrev cX8_init : ByteArray := prog_10_method_1_code
def yX8_init : MethodName := ⟨RX8, "<init>", "()V"⟩
abbrev cX8_in : ByteArray := prog_10_method_2_code
def yX8_in : MethodName := ⟨RX8, "in", "(JJJ)Z"⟩
abbrev cX8_take : ByteArray := prog_10_method_3_code
def yX8_take : MethodName := ⟨RX8, "take", "([J[J)V"⟩
abbrev cX8_isLeap : ByteArray := prog_10_method_4_code
def yX8_isLeap : MethodName := ⟨RX8, "isLeap", "(I)Z"⟩
abbrev cX8_lastOf : ByteArray := prog_10_method_5_code
def yX8_lastOf : MethodName := ⟨RX8, "lastOf", "(II)I"⟩
abbrev cX8_yearOf : ByteArray := prog_10_method_6_code
def yX8_yearOf : MethodName := ⟨RX8, "yearOf", "(I)I"⟩
abbrev cX8_yearStart : ByteArray := prog_10_method_7_code
def yX8_yearStart : MethodName := ⟨RX8, "yearStart", "(I)I"⟩
abbrev cX8_monthAndDay : ByteArray := prog_10_method_8_code
def yX8_monthAndDay : MethodName := ⟨RX8, "monthAndDay", "(I)I"⟩
abbrev cX8_toDay : ByteArray := prog_10_method_9_code
def yX8_toDay : MethodName := ⟨RX8, "toDay", "(III)I"⟩
abbrev cX8_isDay : ByteArray := prog_10_method_10_code
def yX8_isDay : MethodName := ⟨RX8, "isDay", "(I)Z"⟩
abbrev cX8_date : ByteArray := prog_10_method_11_code
def yX8_date : MethodName := ⟨RX8, "date", "(II)I"⟩
abbrev cX8_dayOf : ByteArray := prog_10_method_12_code
def yX8_dayOf : MethodName := ⟨RX8, "dayOf", "(III)I"⟩
abbrev cX8_monthsBehind : ByteArray := prog_10_method_13_code
def yX8_monthsBehind : MethodName := ⟨RX8, "monthsBehind", "(II)I"⟩
abbrev cX8_leapDays : ByteArray := prog_10_method_14_code
def yX8_leapDays : MethodName := ⟨RX8, "leapDays", "(II)I"⟩
abbrev cX8_thirties : ByteArray := prog_10_method_15_code
def yX8_thirties : MethodName := ⟨RX8, "thirties", "(II)I"⟩
abbrev cX8_interestOf : ByteArray := prog_10_method_16_code
def yX8_interestOf : MethodName := ⟨RX8, "interestOf", "(JJIII)J"⟩
abbrev cX8_interest : ByteArray := prog_10_method_17_code
def yX8_interest : MethodName := ⟨RX8, "interest", "(JIIII)J"⟩
abbrev cX8_isLoan : ByteArray := prog_10_method_18_code
def yX8_isLoan : MethodName := ⟨RX8, "isLoan", "(I)Z"⟩
abbrev cX8_at : ByteArray := prog_10_method_19_code
def yX8_at : MethodName := ⟨RX8, "at", "(II)J"⟩
abbrev cX8_sets : ByteArray := prog_10_method_20_code
def yX8_sets : MethodName := ⟨RX8, "sets", "(IIJ)V"⟩
abbrev cX8_endOf : ByteArray := prog_10_method_21_code
def yX8_endOf : MethodName := ⟨RX8, "endOf", "(II)I"⟩
abbrev cX8_periodInterest : ByteArray := prog_10_method_22_code
def yX8_periodInterest : MethodName := ⟨RX8, "periodInterest", "(IJI)J"⟩
abbrev cX8_cut : ByteArray := prog_10_method_23_code
def yX8_cut : MethodName := ⟨RX8, "cut", "(JJJ)J"⟩
abbrev cX8_repays : ByteArray := prog_10_method_24_code
def yX8_repays : MethodName := ⟨RX8, "repays", "(IJ)Z"⟩
abbrev cX8_level : ByteArray := prog_10_method_25_code
def yX8_level : MethodName := ⟨RX8, "level", "(I)V"⟩
abbrev cX8_loan : ByteArray := prog_10_method_26_code
def yX8_loan : MethodName := ⟨RX8, "loan", "(JIII)I"⟩
abbrev cX8_principalOf : ByteArray := prog_10_method_27_code
def yX8_principalOf : MethodName := ⟨RX8, "principalOf", "(IJJI)J"⟩
abbrev cX8_ends : ByteArray := prog_10_method_28_code
def yX8_ends : MethodName := ⟨RX8, "ends", "(I)Z"⟩
abbrev cX8_fees : ByteArray := prog_10_method_29_code
def yX8_fees : MethodName := ⟨RX8, "fees", "(I)V"⟩
abbrev cX8_days : ByteArray := prog_10_method_30_code
def yX8_days : MethodName := ⟨RX8, "days", "(I)I"⟩
abbrev cX8_paidOff : ByteArray := prog_10_method_31_code
def yX8_paidOff : MethodName := ⟨RX8, "paidOff", "(IIJ)J"⟩
abbrev cX8_firstGoes : ByteArray := prog_10_method_32_code
def yX8_firstGoes : MethodName := ⟨RX8, "firstGoes", "(I)V"⟩
abbrev cX8_pays : ByteArray := prog_10_method_33_code
def yX8_pays : MethodName := ⟨RX8, "pays", "(IJ)V"⟩
abbrev cX8_asks : ByteArray := prog_10_method_34_code
def yX8_asks : MethodName := ⟨RX8, "asks", "(II)J"⟩
abbrev cX8_isPaid : ByteArray := prog_10_method_35_code
def yX8_isPaid : MethodName := ⟨RX8, "isPaid", "(IJ)Z"⟩
abbrev cX8_pay : ByteArray := prog_10_method_36_code
def yX8_pay : MethodName := ⟨RX8, "pay", "(IJ)J"⟩
abbrev cX8_reset : ByteArray := prog_10_method_37_code
def yX8_reset : MethodName := ⟨RX8, "reset", "(II)J"⟩
abbrev cX8_writeOff : ByteArray := prog_10_method_38_code
def yX8_writeOff : MethodName := ⟨RX8, "writeOff", "(I)J"⟩
abbrev cX8_rule : ByteArray := prog_10_method_39_code
def yX8_rule : MethodName := ⟨RX8, "rule", "(II)I"⟩
abbrev cX8_of : ByteArray := prog_10_method_40_code
def yX8_of : MethodName := ⟨RX8, "of", "(II)I"⟩
abbrev cX8_owed : ByteArray := prog_10_method_41_code
def yX8_owed : MethodName := ⟨RX8, "owed", "(I)J"⟩
abbrev cX8_sum : ByteArray := prog_10_method_42_code
def yX8_sum : MethodName := ⟨RX8, "sum", "(II)J"⟩
abbrev cX8_bill : ByteArray := prog_10_method_43_code
def yX8_bill : MethodName := ⟨RX8, "bill", "(III)J"⟩
abbrev cX8_comes : ByteArray := prog_10_method_44_code
def yX8_comes : MethodName := ⟨RX8, "comes", "(I)V"⟩
abbrev cX8_flow : ByteArray := prog_10_method_45_code
def yX8_flow : MethodName := ⟨RX8, "flow", "(I)J"⟩
abbrev cX8_nth : ByteArray := prog_10_method_46_code
def yX8_nth : MethodName := ⟨RX8, "nth", "(I)I"⟩
abbrev cX8_toCome : ByteArray := prog_10_method_47_code
def yX8_toCome : MethodName := ⟨RX8, "toCome", "(III)J"⟩
abbrev cX8_coming : ByteArray := prog_10_method_48_code
def yX8_coming : MethodName := ⟨RX8, "coming", "(II)J"⟩
abbrev cX8_valueOf : ByteArray := prog_10_method_49_code
def yX8_valueOf : MethodName := ⟨RX8, "valueOf", "(DZ)D"⟩
abbrev cX8_isRate : ByteArray := prog_10_method_50_code
def yX8_isRate : MethodName := ⟨RX8, "isRate", "(D)Z"⟩
abbrev cX8_value : ByteArray := prog_10_method_51_code
def yX8_value : MethodName := ⟨RX8, "value", "(IJ)J"⟩
abbrev cX8_yields : ByteArray := prog_10_method_52_code
def yX8_yields : MethodName := ⟨RX8, "yields", "(J)D"⟩
abbrev cX8_yieldOf : ByteArray := prog_10_method_53_code
def yX8_yieldOf : MethodName := ⟨RX8, "yieldOf", "(IJ)J"⟩
abbrev cX8_near : ByteArray := prog_10_method_54_code
def yX8_near : MethodName := ⟨RX8, "near", "(IJ)I"⟩
abbrev cX8_duration : ByteArray := prog_10_method_55_code
def yX8_duration : MethodName := ⟨RX8, "duration", "(IJ)J"⟩
abbrev cX8_behind : ByteArray := prog_10_method_56_code
def yX8_behind : MethodName := ⟨RX8, "behind", "(I)I"⟩
abbrev cX8_settles : ByteArray := prog_10_method_57_code
def yX8_settles : MethodName := ⟨RX8, "settles", "(I)I"⟩
abbrev cX8_would : ByteArray := prog_10_method_58_code
def yX8_would : MethodName := ⟨RX8, "would", "(IJI)J"⟩
abbrev cX8_lastPrincipal : ByteArray := prog_10_method_59_code
def yX8_lastPrincipal : MethodName := ⟨RX8, "lastPrincipal", "(I)I"⟩
abbrev cX8_sooner : ByteArray := prog_10_method_60_code
def yX8_sooner : MethodName := ⟨RX8, "sooner", "(IJ)I"⟩
abbrev cX8_isHolder : ByteArray := prog_10_method_61_code
def yX8_isHolder : MethodName := ⟨RX8, "isHolder", "(I)Z"⟩
abbrev cX8_judge : ByteArray := prog_10_method_62_code
def yX8_judge : MethodName := ⟨RX8, "judge", "(II)I"⟩
abbrev cX8_feed : ByteArray := prog_10_method_63_code
def yX8_feed : MethodName := ⟨RX8, "feed", "(I)I"⟩
abbrev cX8_sees : ByteArray := prog_10_method_64_code
def yX8_sees : MethodName := ⟨RX8, "sees", "(II)Z"⟩
abbrev cX8_must : ByteArray := prog_10_method_65_code
def yX8_must : MethodName := ⟨RX8, "must", "(II)I"⟩
abbrev cX8_number : ByteArray := prog_10_method_66_code
def yX8_number : MethodName := ⟨RX8, "number", "()I"⟩
abbrev cX8_partsOf : ByteArray := prog_10_method_67_code
def yX8_partsOf : MethodName := ⟨RX8, "partsOf", "(I)I"⟩
abbrev cX8_line : ByteArray := prog_10_method_68_code
def yX8_line : MethodName := ⟨RX8, "line", "()I"⟩
abbrev cX8_isForm : ByteArray := prog_10_method_69_code
def yX8_isForm : MethodName := ⟨RX8, "isForm", "()Z"⟩
abbrev cX8_does : ByteArray := prog_10_method_70_code
def yX8_does : MethodName := ⟨RX8, "does", "(I)J"⟩
abbrev cX8_script : ByteArray := prog_10_method_71_code
def yX8_script : MethodName := ⟨RX8, "script", "()I"⟩
abbrev cX8_image : ByteArray := prog_10_method_72_code
def yX8_image : MethodName := ⟨RX8, "image", "()I"⟩
abbrev cX8_back : ByteArray := prog_10_method_73_code
def yX8_back : MethodName := ⟨RX8, "back", "()I"⟩
abbrev cX8_hold : ByteArray := prog_10_method_74_code
def yX8_hold : MethodName := ⟨RX8, "hold", "(III)I"⟩
abbrev cX8_row : ByteArray := prog_10_method_75_code
def yX8_row : MethodName := ⟨RX8, "row", "(II)I"⟩
abbrev cX8_put : ByteArray := prog_10_method_76_code
def yX8_put : MethodName := ⟨RX8, "put", "(IIJ)I"⟩
abbrev cX8_tells : ByteArray := prog_10_method_77_code
def yX8_tells : MethodName := ⟨RX8, "tells", "(II)J"⟩
abbrev cX8_bills : ByteArray := prog_10_method_78_code
def yX8_bills : MethodName := ⟨RX8, "bills", "()I"⟩
abbrev cX8_count : ByteArray := prog_10_method_79_code
def yX8_count : MethodName := ⟨RX8, "count", "(I)I"⟩
def RJx145de : String := "java/io/Serializable"
def TJx145de : u_T := fun k => match k with
  | _ => ("", "", "", false)
def tyJx145de : Nat → FieldType := fun k => match k with
  | _ => .int
abbrev wsJx145de0 : List Cond := u_ws RJx145de TJx145de 0
theorem nmJx145de : ∀ a, a < 0 → ∀ b, b < 0 → a ≠ b → (TJx145de a).2.1 ≠ (TJx145de b).2.1 := by decide +kernel
theorem tyJx145de_ok : ∀ k, k < 0 → parseFieldDescriptor (TJx145de k).2.2.1 = some (tyJx145de k) := by decide +kernel
def RJxb160c : String := "java/lang/Comparable"
def TJxb160c : u_T := fun k => match k with
  | _ => ("", "", "", false)
def tyJxb160c : Nat → FieldType := fun k => match k with
  | _ => .int
abbrev wsJxb160c0 : List Cond := u_ws RJxb160c TJxb160c 0
theorem nmJxb160c : ∀ a, a < 0 → ∀ b, b < 0 → a ≠ b → (TJxb160c a).2.1 ≠ (TJxb160c b).2.1 := by decide +kernel
theorem tyJxb160c_ok : ∀ k, k < 0 → parseFieldDescriptor (TJxb160c k).2.2.1 = some (tyJxb160c k) := by decide +kernel
def RJxe99ae : String := "java/lang/Double"
def TJxe99ae : u_T := fun k => match k with
  | _ => ("", "", "", false)
def tyJxe99ae : Nat → FieldType := fun k => match k with
  | _ => .int
abbrev wsJxe99ae0 : List Cond := u_ws RJxe99ae TJxe99ae 0
theorem nmJxe99ae : ∀ a, a < 0 → ∀ b, b < 0 → a ≠ b → (TJxe99ae a).2.1 ≠ (TJxe99ae b).2.1 := by decide +kernel
theorem tyJxe99ae_ok : ∀ k, k < 0 → parseFieldDescriptor (TJxe99ae k).2.2.1 = some (tyJxe99ae k) := by decide +kernel
abbrev cJxe99ae_isNaN_b9ae7 : ByteArray := prog_11_method_6_code
def yJxe99ae_isNaN_b9ae7 : MethodName := ⟨RJxe99ae, "isNaN", "(D)Z"⟩
abbrev cJxe99ae_doubleToLongBits_ccdee : ByteArray := prog_11_method_23_code
def yJxe99ae_doubleToLongBits_ccdee : MethodName := ⟨RJxe99ae, "doubleToLongBits", "(D)J"⟩
def RJxf58ca : String := "java/lang/Float"
def TJxf58ca : u_T := fun k => match k with
  | _ => ("", "", "", false)
def tyJxf58ca : Nat → FieldType := fun k => match k with
  | _ => .int
abbrev wsJxf58ca0 : List Cond := u_ws RJxf58ca TJxf58ca 0
theorem nmJxf58ca : ∀ a, a < 0 → ∀ b, b < 0 → a ≠ b → (TJxf58ca a).2.1 ≠ (TJxf58ca b).2.1 := by decide +kernel
theorem tyJxf58ca_ok : ∀ k, k < 0 → parseFieldDescriptor (TJxf58ca k).2.2.1 = some (tyJxf58ca k) := by decide +kernel
abbrev cJxf58ca_isNaN_12338 : ByteArray := prog_12_method_6_code
def yJxf58ca_isNaN_12338 : MethodName := ⟨RJxf58ca, "isNaN", "(F)Z"⟩
abbrev cJxf58ca_floatToIntBits_5c35a : ByteArray := prog_12_method_24_code
def yJxf58ca_floatToIntBits_5c35a : MethodName := ⟨RJxf58ca, "floatToIntBits", "(F)I"⟩
def RJ9 : String := "java/lang/Math"
def TJ9 : u_T := fun k => match k with
  | _ => ("", "", "", false)
def tyJ9 : Nat → FieldType := fun k => match k with
  | _ => .int
abbrev wsJ90 : List Cond := u_ws RJ9 TJ9 0
theorem nmJ9 : ∀ a, a < 0 → ∀ b, b < 0 → a ≠ b → (TJ9 a).2.1 ≠ (TJ9 b).2.1 := by decide +kernel
theorem tyJ9_ok : ∀ k, k < 0 → parseFieldDescriptor (TJ9 k).2.2.1 = some (tyJ9 k) := by decide +kernel
abbrev cJ9_floorMod_7cf53 : ByteArray := prog_13_method_50_code
def yJ9_floorMod_7cf53 : MethodName := ⟨RJ9, "floorMod", "(II)I"⟩
abbrev cJ9_max_7cf53 : ByteArray := prog_13_method_65_code
def yJ9_max_7cf53 : MethodName := ⟨RJ9, "max", "(II)I"⟩
abbrev cJ9_max_f86c9 : ByteArray := prog_13_method_66_code
def yJ9_max_f86c9 : MethodName := ⟨RJ9, "max", "(JJ)J"⟩
abbrev cJ9_min_7cf53 : ByteArray := prog_13_method_69_code
def yJ9_min_7cf53 : MethodName := ⟨RJ9, "min", "(II)I"⟩
abbrev cJ9_min_f86c9 : ByteArray := prog_13_method_70_code
def yJ9_min_f86c9 : MethodName := ⟨RJ9, "min", "(JJ)J"⟩
def RJxd2413 : String := "java/lang/Number"
def TJxd2413 : u_T := fun k => match k with
  | _ => ("", "", "", false)
def tyJxd2413 : Nat → FieldType := fun k => match k with
  | _ => .int
abbrev wsJxd24130 : List Cond := u_ws RJxd2413 TJxd2413 0
theorem nmJxd2413 : ∀ a, a < 0 → ∀ b, b < 0 → a ≠ b → (TJxd2413 a).2.1 ≠ (TJxd2413 b).2.1 := by decide +kernel
theorem tyJxd2413_ok : ∀ k, k < 0 → parseFieldDescriptor (TJxd2413 k).2.2.1 = some (tyJxd2413 k) := by decide +kernel
def RJ10 : String := "java/lang/System"
def TJ10 : u_T := fun k => match k with
  | _ => ("", "", "", false)
def tyJ10 : Nat → FieldType := fun k => match k with
  | _ => .int
abbrev wsJ100 : List Cond := u_ws RJ10 TJ10 0
theorem nmJ10 : ∀ a, a < 0 → ∀ b, b < 0 → a ≠ b → (TJ10 a).2.1 ≠ (TJ10 b).2.1 := by decide +kernel
theorem tyJ10_ok : ∀ k, k < 0 → parseFieldDescriptor (TJ10 k).2.2.1 = some (tyJ10 k) := by decide +kernel
def RJxfd54e : String := "java/lang/constant/Constable"
def TJxfd54e : u_T := fun k => match k with
  | _ => ("", "", "", false)
def tyJxfd54e : Nat → FieldType := fun k => match k with
  | _ => .int
abbrev wsJxfd54e0 : List Cond := u_ws RJxfd54e TJxfd54e 0
theorem nmJxfd54e : ∀ a, a < 0 → ∀ b, b < 0 → a ≠ b → (TJxfd54e a).2.1 ≠ (TJxfd54e b).2.1 := by decide +kernel
theorem tyJxfd54e_ok : ∀ k, k < 0 → parseFieldDescriptor (TJxfd54e k).2.2.1 = some (tyJxfd54e k) := by decide +kernel
def RJx3cf43 : String := "java/lang/constant/ConstantDesc"
def TJx3cf43 : u_T := fun k => match k with
  | _ => ("", "", "", false)
def tyJx3cf43 : Nat → FieldType := fun k => match k with
  | _ => .int
abbrev wsJx3cf430 : List Cond := u_ws RJx3cf43 TJx3cf43 0
theorem nmJx3cf43 : ∀ a, a < 0 → ∀ b, b < 0 → a ≠ b → (TJx3cf43 a).2.1 ≠ (TJx3cf43 b).2.1 := by decide +kernel
theorem tyJx3cf43_ok : ∀ k, k < 0 → parseFieldDescriptor (TJx3cf43 k).2.2.1 = some (tyJx3cf43 k) := by decide +kernel
def RJ7 : String := "java/util/Arrays"
def TJ7 : u_T := fun k => match k with
  | _ => ("", "", "", false)
def tyJ7 : Nat → FieldType := fun k => match k with
  | _ => .int
abbrev wsJ70 : List Cond := u_ws RJ7 TJ7 0
theorem nmJ7 : ∀ a, a < 0 → ∀ b, b < 0 → a ≠ b → (TJ7 a).2.1 ≠ (TJ7 b).2.1 := by decide +kernel
theorem tyJ7_ok : ∀ k, k < 0 → parseFieldDescriptor (TJ7 k).2.2.1 = some (tyJ7 k) := by decide +kernel
abbrev cJ7_fill_d0a16 : ByteArray := prog_16_method_101_code
def yJ7_fill_d0a16 : MethodName := ⟨RJ7, "fill", "([JJ)V"⟩
def RL : String := "LoanBookLaw"
abbrev cL_law : ByteArray := code
def yL_law : MethodName := ⟨RL, "law", "([I)Z"⟩
