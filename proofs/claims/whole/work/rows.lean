section
-- ===== PART A: goes FIRST, ahead of the names: the tables' words, and 'selects' of the private methods out of them =====
/-- a private method of a class that the tables say can be made, by its rows of tables_1 -/
def lw_okq (q : MethodName × Nat) : Prop := (q.1.cls ≠ "java/lang/invoke/MethodHandle" ∧ q.1.cls ≠ "java/lang/invoke/VarHandle") ∧ Cond.instantiable q.1.cls q.2 ∈ tables_1 ∧ Cond.privateMethod q.1 ∈ tables_1 ∧ Cond.instanceMethod q.1 ∈ tables_1
theorem lw_p0 : lw_okq (⟨"LoanBook$Loan", "isRepaidBy", "(J)Z"⟩, 19) := ⟨⟨by decide +kernel, by decide +kernel⟩, List.mem_of_getElem? (i := 32) (by decide +kernel), List.mem_of_getElem? (i := 352) (by decide +kernel), List.mem_of_getElem? (i := 353) (by decide +kernel)⟩
theorem lw_p1 : lw_okq (⟨"LoanBook$Loan", "payBill", "(IJ)J"⟩, 19) := ⟨⟨by decide +kernel, by decide +kernel⟩, List.mem_of_getElem? (i := 32) (by decide +kernel), List.mem_of_getElem? (i := 410) (by decide +kernel), List.mem_of_getElem? (i := 411) (by decide +kernel)⟩
theorem lw_p2 : lw_okq (⟨"LoanBook$Tape", "here", "()I"⟩, 5) := ⟨⟨by decide +kernel, by decide +kernel⟩, List.mem_of_getElem? (i := 174) (by decide +kernel), List.mem_of_getElem? (i := 606) (by decide +kernel), List.mem_of_getElem? (i := 607) (by decide +kernel)⟩
theorem lw_p3 : lw_okq (⟨"LoanBook$Tape", "readNumber", "(I)Z"⟩, 5) := ⟨⟨by decide +kernel, by decide +kernel⟩, List.mem_of_getElem? (i := 174) (by decide +kernel), List.mem_of_getElem? (i := 613) (by decide +kernel), List.mem_of_getElem? (i := 614) (by decide +kernel)⟩
theorem lw_p4 : lw_okq (⟨"LoanBook", "doLine", "()J"⟩, 8) := ⟨⟨by decide +kernel, by decide +kernel⟩, List.mem_of_getElem? (i := 17) (by decide +kernel), List.mem_of_getElem? (i := 623) (by decide +kernel), List.mem_of_getElem? (i := 624) (by decide +kernel)⟩
theorem lw_p5 : lw_okq (⟨"LoanBook", "loanTells", "(II)J"⟩, 8) := ⟨⟨by decide +kernel, by decide +kernel⟩, List.mem_of_getElem? (i := 17) (by decide +kernel), List.mem_of_getElem? (i := 672) (by decide +kernel), List.mem_of_getElem? (i := 673) (by decide +kernel)⟩
theorem lw_p6 : lw_okq (⟨"LoanBook", "fullHolders", "()I"⟩, 8) := ⟨⟨by decide +kernel, by decide +kernel⟩, List.mem_of_getElem? (i := 17) (by decide +kernel), List.mem_of_getElem? (i := 695) (by decide +kernel), List.mem_of_getElem? (i := 696) (by decide +kernel)⟩
theorem lw_p7 : lw_okq (⟨"LoanBookModel", "sets", "(IIJ)V"⟩, 22) := ⟨⟨by decide +kernel, by decide +kernel⟩, List.mem_of_getElem? (i := 699) (by decide +kernel), List.mem_of_getElem? (i := 847) (by decide +kernel), List.mem_of_getElem? (i := 848) (by decide +kernel)⟩
theorem lw_p8 : lw_okq (⟨"LoanBookModel", "level", "(I)V"⟩, 22) := ⟨⟨by decide +kernel, by decide +kernel⟩, List.mem_of_getElem? (i := 699) (by decide +kernel), List.mem_of_getElem? (i := 851) (by decide +kernel), List.mem_of_getElem? (i := 852) (by decide +kernel)⟩
theorem lw_p9 : lw_okq (⟨"LoanBookModel", "at", "(II)J"⟩, 22) := ⟨⟨by decide +kernel, by decide +kernel⟩, List.mem_of_getElem? (i := 699) (by decide +kernel), List.mem_of_getElem? (i := 855) (by decide +kernel), List.mem_of_getElem? (i := 856) (by decide +kernel)⟩
theorem lw_p10 : lw_okq (⟨"LoanBookModel", "repays", "(IJ)Z"⟩, 22) := ⟨⟨by decide +kernel, by decide +kernel⟩, List.mem_of_getElem? (i := 699) (by decide +kernel), List.mem_of_getElem? (i := 860) (by decide +kernel), List.mem_of_getElem? (i := 861) (by decide +kernel)⟩
theorem lw_p11 : lw_okq (⟨"LoanBookModel", "periodInterest", "(IJI)J"⟩, 22) := ⟨⟨by decide +kernel, by decide +kernel⟩, List.mem_of_getElem? (i := 699) (by decide +kernel), List.mem_of_getElem? (i := 864) (by decide +kernel), List.mem_of_getElem? (i := 865) (by decide +kernel)⟩
theorem lw_p12 : lw_okq (⟨"LoanBookModel", "endOf", "(II)I"⟩, 22) := ⟨⟨by decide +kernel, by decide +kernel⟩, List.mem_of_getElem? (i := 699) (by decide +kernel), List.mem_of_getElem? (i := 868) (by decide +kernel), List.mem_of_getElem? (i := 869) (by decide +kernel)⟩
theorem lw_p13 : lw_okq (⟨"LoanBookModel", "ends", "(I)Z"⟩, 22) := ⟨⟨by decide +kernel, by decide +kernel⟩, List.mem_of_getElem? (i := 699) (by decide +kernel), List.mem_of_getElem? (i := 880) (by decide +kernel), List.mem_of_getElem? (i := 881) (by decide +kernel)⟩
theorem lw_p14 : lw_okq (⟨"LoanBookModel", "principalOf", "(IJJI)J"⟩, 22) := ⟨⟨by decide +kernel, by decide +kernel⟩, List.mem_of_getElem? (i := 699) (by decide +kernel), List.mem_of_getElem? (i := 884) (by decide +kernel), List.mem_of_getElem? (i := 885) (by decide +kernel)⟩
theorem lw_p15 : lw_okq (⟨"LoanBookModel", "fees", "(I)V"⟩, 22) := ⟨⟨by decide +kernel, by decide +kernel⟩, List.mem_of_getElem? (i := 699) (by decide +kernel), List.mem_of_getElem? (i := 888) (by decide +kernel), List.mem_of_getElem? (i := 889) (by decide +kernel)⟩
def lw_privs_1 : List (MethodName × Nat) := [(⟨"LoanBook$Loan", "isRepaidBy", "(J)Z"⟩, 19), (⟨"LoanBook$Loan", "payBill", "(IJ)J"⟩, 19), (⟨"LoanBook$Tape", "here", "()I"⟩, 5), (⟨"LoanBook$Tape", "readNumber", "(I)Z"⟩, 5), (⟨"LoanBook", "doLine", "()J"⟩, 8), (⟨"LoanBook", "loanTells", "(II)J"⟩, 8), (⟨"LoanBook", "fullHolders", "()I"⟩, 8), (⟨"LoanBookModel", "sets", "(IIJ)V"⟩, 22), (⟨"LoanBookModel", "level", "(I)V"⟩, 22), (⟨"LoanBookModel", "at", "(II)J"⟩, 22), (⟨"LoanBookModel", "repays", "(IJ)Z"⟩, 22), (⟨"LoanBookModel", "periodInterest", "(IJI)J"⟩, 22), (⟨"LoanBookModel", "endOf", "(II)I"⟩, 22), (⟨"LoanBookModel", "ends", "(I)Z"⟩, 22), (⟨"LoanBookModel", "principalOf", "(IJJI)J"⟩, 22), (⟨"LoanBookModel", "fees", "(I)V"⟩, 22)]
theorem lw_r1 : ∀ q ∈ lw_privs_1, lw_okq q := List.forall_mem_cons.mpr ⟨lw_p0, List.forall_mem_cons.mpr ⟨lw_p1, List.forall_mem_cons.mpr ⟨lw_p2, List.forall_mem_cons.mpr ⟨lw_p3, List.forall_mem_cons.mpr ⟨lw_p4, List.forall_mem_cons.mpr ⟨lw_p5, List.forall_mem_cons.mpr ⟨lw_p6, List.forall_mem_cons.mpr ⟨lw_p7, List.forall_mem_cons.mpr ⟨lw_p8, List.forall_mem_cons.mpr ⟨lw_p9, List.forall_mem_cons.mpr ⟨lw_p10, List.forall_mem_cons.mpr ⟨lw_p11, List.forall_mem_cons.mpr ⟨lw_p12, List.forall_mem_cons.mpr ⟨lw_p13, List.forall_mem_cons.mpr ⟨lw_p14, List.forall_mem_cons.mpr ⟨lw_p15, fun _ h => absurd h List.not_mem_nil⟩⟩⟩⟩⟩⟩⟩⟩⟩⟩⟩⟩⟩⟩⟩⟩
theorem lw_p16 : lw_okq (⟨"LoanBookModel", "isPaid", "(IJ)Z"⟩, 22) := ⟨⟨by decide +kernel, by decide +kernel⟩, List.mem_of_getElem? (i := 699) (by decide +kernel), List.mem_of_getElem? (i := 896) (by decide +kernel), List.mem_of_getElem? (i := 897) (by decide +kernel)⟩
theorem lw_p17 : lw_okq (⟨"LoanBookModel", "isLoan", "(I)Z"⟩, 22) := ⟨⟨by decide +kernel, by decide +kernel⟩, List.mem_of_getElem? (i := 699) (by decide +kernel), List.mem_of_getElem? (i := 900) (by decide +kernel), List.mem_of_getElem? (i := 901) (by decide +kernel)⟩
theorem lw_p18 : lw_okq (⟨"LoanBookModel", "pays", "(IJ)V"⟩, 22) := ⟨⟨by decide +kernel, by decide +kernel⟩, List.mem_of_getElem? (i := 699) (by decide +kernel), List.mem_of_getElem? (i := 905) (by decide +kernel), List.mem_of_getElem? (i := 906) (by decide +kernel)⟩
theorem lw_p19 : lw_okq (⟨"LoanBookModel", "paidOff", "(IIJ)J"⟩, 22) := ⟨⟨by decide +kernel, by decide +kernel⟩, List.mem_of_getElem? (i := 699) (by decide +kernel), List.mem_of_getElem? (i := 909) (by decide +kernel), List.mem_of_getElem? (i := 910) (by decide +kernel)⟩
theorem lw_p20 : lw_okq (⟨"LoanBookModel", "asks", "(II)J"⟩, 22) := ⟨⟨by decide +kernel, by decide +kernel⟩, List.mem_of_getElem? (i := 699) (by decide +kernel), List.mem_of_getElem? (i := 913) (by decide +kernel), List.mem_of_getElem? (i := 914) (by decide +kernel)⟩
theorem lw_p21 : lw_okq (⟨"LoanBookModel", "firstGoes", "(I)V"⟩, 22) := ⟨⟨by decide +kernel, by decide +kernel⟩, List.mem_of_getElem? (i := 699) (by decide +kernel), List.mem_of_getElem? (i := 917) (by decide +kernel), List.mem_of_getElem? (i := 918) (by decide +kernel)⟩
theorem lw_p22 : lw_okq (⟨"LoanBookModel", "owed", "(I)J"⟩, 22) := ⟨⟨by decide +kernel, by decide +kernel⟩, List.mem_of_getElem? (i := 699) (by decide +kernel), List.mem_of_getElem? (i := 944) (by decide +kernel), List.mem_of_getElem? (i := 945) (by decide +kernel)⟩
theorem lw_p23 : lw_okq (⟨"LoanBookModel", "comes", "(I)V"⟩, 22) := ⟨⟨by decide +kernel, by decide +kernel⟩, List.mem_of_getElem? (i := 699) (by decide +kernel), List.mem_of_getElem? (i := 948) (by decide +kernel), List.mem_of_getElem? (i := 949) (by decide +kernel)⟩
theorem lw_p24 : lw_okq (⟨"LoanBookModel", "nth", "(I)I"⟩, 22) := ⟨⟨by decide +kernel, by decide +kernel⟩, List.mem_of_getElem? (i := 699) (by decide +kernel), List.mem_of_getElem? (i := 961) (by decide +kernel), List.mem_of_getElem? (i := 962) (by decide +kernel)⟩
theorem lw_p25 : lw_okq (⟨"LoanBookModel", "flow", "(I)J"⟩, 22) := ⟨⟨by decide +kernel, by decide +kernel⟩, List.mem_of_getElem? (i := 699) (by decide +kernel), List.mem_of_getElem? (i := 965) (by decide +kernel), List.mem_of_getElem? (i := 966) (by decide +kernel)⟩
theorem lw_p26 : lw_okq (⟨"LoanBookModel", "valueOf", "(DZ)D"⟩, 22) := ⟨⟨by decide +kernel, by decide +kernel⟩, List.mem_of_getElem? (i := 699) (by decide +kernel), List.mem_of_getElem? (i := 984) (by decide +kernel), List.mem_of_getElem? (i := 985) (by decide +kernel)⟩
theorem lw_p27 : lw_okq (⟨"LoanBookModel", "yields", "(J)D"⟩, 22) := ⟨⟨by decide +kernel, by decide +kernel⟩, List.mem_of_getElem? (i := 699) (by decide +kernel), List.mem_of_getElem? (i := 1002) (by decide +kernel), List.mem_of_getElem? (i := 1003) (by decide +kernel)⟩
theorem lw_p28 : lw_okq (⟨"LoanBookModel", "lastPrincipal", "(I)I"⟩, 22) := ⟨⟨by decide +kernel, by decide +kernel⟩, List.mem_of_getElem? (i := 699) (by decide +kernel), List.mem_of_getElem? (i := 1045) (by decide +kernel), List.mem_of_getElem? (i := 1046) (by decide +kernel)⟩
theorem lw_p29 : lw_okq (⟨"LoanBookModel", "isHolder", "(I)Z"⟩, 22) := ⟨⟨by decide +kernel, by decide +kernel⟩, List.mem_of_getElem? (i := 699) (by decide +kernel), List.mem_of_getElem? (i := 1053) (by decide +kernel), List.mem_of_getElem? (i := 1054) (by decide +kernel)⟩
theorem lw_p30 : lw_okq (⟨"LoanBookModel", "isForm", "()Z"⟩, 22) := ⟨⟨by decide +kernel, by decide +kernel⟩, List.mem_of_getElem? (i := 699) (by decide +kernel), List.mem_of_getElem? (i := 1066) (by decide +kernel), List.mem_of_getElem? (i := 1067) (by decide +kernel)⟩
theorem lw_p31 : lw_okq (⟨"LoanBookModel", "line", "()I"⟩, 22) := ⟨⟨by decide +kernel, by decide +kernel⟩, List.mem_of_getElem? (i := 699) (by decide +kernel), List.mem_of_getElem? (i := 1070) (by decide +kernel), List.mem_of_getElem? (i := 1071) (by decide +kernel)⟩
def lw_privs_2 : List (MethodName × Nat) := [(⟨"LoanBookModel", "isPaid", "(IJ)Z"⟩, 22), (⟨"LoanBookModel", "isLoan", "(I)Z"⟩, 22), (⟨"LoanBookModel", "pays", "(IJ)V"⟩, 22), (⟨"LoanBookModel", "paidOff", "(IIJ)J"⟩, 22), (⟨"LoanBookModel", "asks", "(II)J"⟩, 22), (⟨"LoanBookModel", "firstGoes", "(I)V"⟩, 22), (⟨"LoanBookModel", "owed", "(I)J"⟩, 22), (⟨"LoanBookModel", "comes", "(I)V"⟩, 22), (⟨"LoanBookModel", "nth", "(I)I"⟩, 22), (⟨"LoanBookModel", "flow", "(I)J"⟩, 22), (⟨"LoanBookModel", "valueOf", "(DZ)D"⟩, 22), (⟨"LoanBookModel", "yields", "(J)D"⟩, 22), (⟨"LoanBookModel", "lastPrincipal", "(I)I"⟩, 22), (⟨"LoanBookModel", "isHolder", "(I)Z"⟩, 22), (⟨"LoanBookModel", "isForm", "()Z"⟩, 22), (⟨"LoanBookModel", "line", "()I"⟩, 22)]
theorem lw_r2 : ∀ q ∈ lw_privs_2, lw_okq q := List.forall_mem_cons.mpr ⟨lw_p16, List.forall_mem_cons.mpr ⟨lw_p17, List.forall_mem_cons.mpr ⟨lw_p18, List.forall_mem_cons.mpr ⟨lw_p19, List.forall_mem_cons.mpr ⟨lw_p20, List.forall_mem_cons.mpr ⟨lw_p21, List.forall_mem_cons.mpr ⟨lw_p22, List.forall_mem_cons.mpr ⟨lw_p23, List.forall_mem_cons.mpr ⟨lw_p24, List.forall_mem_cons.mpr ⟨lw_p25, List.forall_mem_cons.mpr ⟨lw_p26, List.forall_mem_cons.mpr ⟨lw_p27, List.forall_mem_cons.mpr ⟨lw_p28, List.forall_mem_cons.mpr ⟨lw_p29, List.forall_mem_cons.mpr ⟨lw_p30, List.forall_mem_cons.mpr ⟨lw_p31, fun _ h => absurd h List.not_mem_nil⟩⟩⟩⟩⟩⟩⟩⟩⟩⟩⟩⟩⟩⟩⟩⟩
theorem lw_p32 : lw_okq (⟨"LoanBookModel", "number", "()I"⟩, 22) := ⟨⟨by decide +kernel, by decide +kernel⟩, List.mem_of_getElem? (i := 699) (by decide +kernel), List.mem_of_getElem? (i := 1077) (by decide +kernel), List.mem_of_getElem? (i := 1078) (by decide +kernel)⟩
theorem lw_p33 : lw_okq (⟨"LoanBookModel", "must", "(II)I"⟩, 22) := ⟨⟨by decide +kernel, by decide +kernel⟩, List.mem_of_getElem? (i := 699) (by decide +kernel), List.mem_of_getElem? (i := 1081) (by decide +kernel), List.mem_of_getElem? (i := 1082) (by decide +kernel)⟩
theorem lw_p34 : lw_okq (⟨"LoanBookModel", "sees", "(II)Z"⟩, 22) := ⟨⟨by decide +kernel, by decide +kernel⟩, List.mem_of_getElem? (i := 699) (by decide +kernel), List.mem_of_getElem? (i := 1085) (by decide +kernel), List.mem_of_getElem? (i := 1086) (by decide +kernel)⟩
theorem lw_p35 : lw_okq (⟨"LoanBookModel", "does", "(I)J"⟩, 22) := ⟨⟨by decide +kernel, by decide +kernel⟩, List.mem_of_getElem? (i := 699) (by decide +kernel), List.mem_of_getElem? (i := 1089) (by decide +kernel), List.mem_of_getElem? (i := 1090) (by decide +kernel)⟩
theorem lw_p36 : lw_okq (⟨"LoanBookModel", "bills", "()I"⟩, 22) := ⟨⟨by decide +kernel, by decide +kernel⟩, List.mem_of_getElem? (i := 699) (by decide +kernel), List.mem_of_getElem? (i := 1129) (by decide +kernel), List.mem_of_getElem? (i := 1130) (by decide +kernel)⟩
def lw_privs_3 : List (MethodName × Nat) := [(⟨"LoanBookModel", "number", "()I"⟩, 22), (⟨"LoanBookModel", "must", "(II)I"⟩, 22), (⟨"LoanBookModel", "sees", "(II)Z"⟩, 22), (⟨"LoanBookModel", "does", "(I)J"⟩, 22), (⟨"LoanBookModel", "bills", "()I"⟩, 22)]
theorem lw_r3 : ∀ q ∈ lw_privs_3, lw_okq q := List.forall_mem_cons.mpr ⟨lw_p32, List.forall_mem_cons.mpr ⟨lw_p33, List.forall_mem_cons.mpr ⟨lw_p34, List.forall_mem_cons.mpr ⟨lw_p35, List.forall_mem_cons.mpr ⟨lw_p36, fun _ h => absurd h List.not_mem_nil⟩⟩⟩⟩⟩
def lw_privs : List (MethodName × Nat) := lw_privs_1 ++ (lw_privs_2 ++ (lw_privs_3))
def lw_tbl : List Cond := k2_sels lw_privs ++ tables_1
theorem lw_privs_ok : ∀ q ∈ lw_privs, lw_okq q := by
  show ∀ q ∈ lw_privs_1 ++ (lw_privs_2 ++ (lw_privs_3)), lw_okq q
  exact List.forall_mem_append.mpr ⟨lw_r1, List.forall_mem_append.mpr ⟨lw_r2, lw_r3⟩⟩
/-- the streams that the claim lets the run draw from -/
abbrev lw_cs : List Choice := [Jvm.Choice.named "NaN.bits", Jvm.Choice.named "NaN.copy"]
theorem lw_bits : nanBits ∈ lw_cs := by first | decide | exact List.mem_cons_self | simp [lw_cs, nanBits]
def RX0 : String := "LoanBook$Bits"
def TX0 : u_T := fun k => match k with
  | _ => ("", "", "", false)
def tyX0 : Nat → FieldType := fun k => match k with
  | _ => .int
abbrev wsX00 : List Cond := u_ws RX0 TX0 0
theorem nmX0 : ∀ a, a < 0 → ∀ b, b < 0 → a ≠ b → (TX0 a).2.1 ≠ (TX0 b).2.1 := by decide +kernel
theorem tyX0_ok : ∀ k, k < 0 → parseFieldDescriptor (TX0 k).2.2.1 = some (tyX0 k) := by decide +kernel
abbrev cX0_isRateOfPeriod : ByteArray := prog_2_method_2_code
def yX0_isRateOfPeriod : MethodName := ⟨RX0, "isRateOfPeriod", "(J)Z"⟩
abbrev cX0_toDouble : ByteArray := prog_2_method_3_code
def yX0_toDouble : MethodName := ⟨RX0, "toDouble", "(J)D"⟩
abbrev cX0_ofDouble : ByteArray := prog_2_method_4_code
def yX0_ofDouble : MethodName := ⟨RX0, "ofDouble", "(D)J"⟩
abbrev cX0_ofFloat : ByteArray := prog_2_method_5_code
def yX0_ofFloat : MethodName := ⟨RX0, "ofFloat", "(F)I"⟩
def RX1 : String := "LoanBook$Book"
def TX1 : u_T := fun k => match k with
  | 0 => ("LoanBook$Book", "day", "I", false)
  | 1 => ("LoanBook$Book", "grace", "I", false)
  | 2 => ("LoanBook$Book", "lateFee", "I", false)
  | 3 => ("LoanBook$Book", "size", "I", false)
  | _ => ("LoanBook$Book", "loans", "[LLoanBook$Loan;", true)
def tyX1 : Nat → FieldType := fun k => match k with
  | 0 => .int
  | 1 => .int
  | 2 => .int
  | 3 => .int
  | _ => .array (.object "LoanBook$Loan")
abbrev wsX10 : List Cond := u_ws RX1 TX1 5
theorem nmX1 : ∀ a, a < 5 → ∀ b, b < 5 → a ≠ b → (TX1 a).2.1 ≠ (TX1 b).2.1 := by decide +kernel
theorem tyX1_ok : ∀ k, k < 5 → parseFieldDescriptor (TX1 k).2.2.1 = some (tyX1 k) := by decide +kernel
abbrev cX1_init : ByteArray := prog_3_method_1_code
def yX1_init : MethodName := ⟨RX1, "<init>", "()V"⟩
abbrev cX1_copyFrom : ByteArray := prog_3_method_2_code
def yX1_copyFrom : MethodName := ⟨RX1, "copyFrom", "(LLoanBook$Book;)V"⟩
abbrev cX1_has : ByteArray := prog_3_method_3_code
def yX1_has : MethodName := ⟨RX1, "has", "(I)Z"⟩
abbrev cX1_lend : ByteArray := prog_3_method_4_code
def yX1_lend : MethodName := ⟨RX1, "lend", "(JIIIII)I"⟩
abbrev cX1_passDays : ByteArray := prog_3_method_5_code
def yX1_passDays : MethodName := ⟨RX1, "passDays", "(I)I"⟩
abbrev cX1_billsInArrears : ByteArray := prog_3_method_6_code
def yX1_billsInArrears : MethodName := ⟨RX1, "billsInArrears", "()I"⟩
abbrev cX1_settledLoans : ByteArray := prog_3_method_7_code
def yX1_settledLoans : MethodName := ⟨RX1, "settledLoans", "()I"⟩
def RX2 : String := "LoanBook$Dates"
def TX2 : u_T := fun k => match k with
  | _ => ("", "", "", false)
def tyX2 : Nat → FieldType := fun k => match k with
  | _ => .int
abbrev wsX20 : List Cond := u_ws RX2 TX2 0
theorem nmX2 : ∀ a, a < 0 → ∀ b, b < 0 → a ≠ b → (TX2 a).2.1 ≠ (TX2 b).2.1 := by decide +kernel
theorem tyX2_ok : ∀ k, k < 0 → parseFieldDescriptor (TX2 k).2.2.1 = some (tyX2 k) := by decide +kernel
abbrev cX2_firstOf : ByteArray := prog_4_method_2_code
def yX2_firstOf : MethodName := ⟨RX2, "firstOf", "(I)I"⟩
abbrev cX2_lengthOf : ByteArray := prog_4_method_3_code
def yX2_lengthOf : MethodName := ⟨RX2, "lengthOf", "(I)I"⟩
abbrev cX2_monthOf : ByteArray := prog_4_method_4_code
def yX2_monthOf : MethodName := ⟨RX2, "monthOf", "(I)I"⟩
abbrev cX2_partsBetween : ByteArray := prog_4_method_5_code
def yX2_partsBetween : MethodName := ⟨RX2, "partsBetween", "(III)J"⟩
abbrev cX2_cents : ByteArray := prog_4_method_6_code
def yX2_cents : MethodName := ⟨RX2, "cents", "(JIJ)J"⟩
abbrev cX2_thirties : ByteArray := prog_4_method_7_code
def yX2_thirties : MethodName := ⟨RX2, "thirties", "(I)I"⟩
abbrev cX2_leapYearDays : ByteArray := prog_4_method_8_code
def yX2_leapYearDays : MethodName := ⟨RX2, "leapYearDays", "(I)I"⟩
def RX3 : String := "LoanBook$Holder"
def TX3 : u_T := fun k => match k with
  | 0 => ("LoanBook$Holder", "sort", "I", false)
  | 1 => ("LoanBook$Holder", "number", "I", false)
  | 2 => ("LoanBook$Holder", "size", "I", false)
  | 3 => ("LoanBook$Holder", "asks", "J", false)
  | _ => ("LoanBook$Holder", "items", "[J", true)
def tyX3 : Nat → FieldType := fun k => match k with
  | 0 => .int
  | 1 => .int
  | 2 => .int
  | 3 => .long
  | _ => .array .long
abbrev wsX30 : List Cond := u_ws RX3 TX3 5
theorem nmX3 : ∀ a, a < 5 → ∀ b, b < 5 → a ≠ b → (TX3 a).2.1 ≠ (TX3 b).2.1 := by decide +kernel
theorem tyX3_ok : ∀ k, k < 5 → parseFieldDescriptor (TX3 k).2.2.1 = some (tyX3 k) := by decide +kernel
abbrev cX3_init : ByteArray := prog_5_method_1_code
def yX3_init : MethodName := ⟨RX3, "<init>", "()V"⟩
abbrev cX3_takeLoan : ByteArray := prog_5_method_2_code
def yX3_takeLoan : MethodName := ⟨RX3, "takeLoan", "(I)V"⟩
abbrev cX3_takeBill : ByteArray := prog_5_method_3_code
def yX3_takeBill : MethodName := ⟨RX3, "takeBill", "(IJ)V"⟩
abbrev cX3_takeRow : ByteArray := prog_5_method_4_code
def yX3_takeRow : MethodName := ⟨RX3, "takeRow", "(I)V"⟩
def RX4 : String := "LoanBook$Loan"
def TX4 : u_T := fun k => match k with
  | 0 => ("LoanBook$Loan", "lent", "J", false)
  | 1 => ("LoanBook$Loan", "balance", "J", false)
  | 2 => ("LoanBook$Loan", "level", "J", false)
  | 3 => ("LoanBook$Loan", "feesGot", "J", false)
  | 4 => ("LoanBook$Loan", "interestGot", "J", false)
  | 5 => ("LoanBook$Loan", "principalGot", "J", false)
  | 6 => ("LoanBook$Loan", "lost", "J", false)
  | 7 => ("LoanBook$Loan", "rate", "I", false)
  | 8 => ("LoanBook$Loan", "dayCount", "I", false)
  | 9 => ("LoanBook$Loan", "kind", "I", false)
  | 10 => ("LoanBook$Loan", "mode", "I", false)
  | 11 => ("LoanBook$Loan", "periods", "I", false)
  | 12 => ("LoanBook$Loan", "done", "I", false)
  | 13 => ("LoanBook$Loan", "ends", "[I", true)
  | 14 => ("LoanBook$Loan", "parts", "[J", true)
  | 15 => ("LoanBook$Loan", "feeDue", "[J", true)
  | 16 => ("LoanBook$Loan", "interestDue", "[J", true)
  | 17 => ("LoanBook$Loan", "principalDue", "[J", true)
  | _ => ("LoanBook$Loan", "hadFee", "[Z", true)
def tyX4 : Nat → FieldType := fun k => match k with
  | 0 => .long
  | 1 => .long
  | 2 => .long
  | 3 => .long
  | 4 => .long
  | 5 => .long
  | 6 => .long
  | 7 => .int
  | 8 => .int
  | 9 => .int
  | 10 => .int
  | 11 => .int
  | 12 => .int
  | 13 => .array .int
  | 14 => .array .long
  | 15 => .array .long
  | 16 => .array .long
  | 17 => .array .long
  | _ => .array .boolean
abbrev wsX40 : List Cond := u_ws RX4 TX4 19
theorem nmX4 : ∀ a, a < 19 → ∀ b, b < 19 → a ≠ b → (TX4 a).2.1 ≠ (TX4 b).2.1 := by decide +kernel
theorem tyX4_ok : ∀ k, k < 19 → parseFieldDescriptor (TX4 k).2.2.1 = some (tyX4 k) := by decide +kernel
abbrev cX4_init : ByteArray := prog_6_method_1_code
def yX4_init : MethodName := ⟨RX4, "<init>", "()V"⟩
abbrev cX4_copyFrom : ByteArray := prog_6_method_2_code
def yX4_copyFrom : MethodName := ⟨RX4, "copyFrom", "(LLoanBook$Loan;)V"⟩
abbrev cX4_clear : ByteArray := prog_6_method_3_code
def yX4_clear : MethodName := ⟨RX4, "clear", "()V"⟩
abbrev cX4_clearArrears : ByteArray := prog_6_method_4_code
def yX4_clearArrears : MethodName := ⟨RX4, "clearArrears", "()V"⟩
abbrev cX4_layPeriods : ByteArray := prog_6_method_5_code
def yX4_layPeriods : MethodName := ⟨RX4, "layPeriods", "(I)V"⟩
abbrev cX4_interestOf : ByteArray := prog_6_method_6_code
def yX4_interestOf : MethodName := ⟨RX4, "interestOf", "(IJ)J"⟩
abbrev cX4_principalOf : ByteArray := prog_6_method_7_code
def yX4_principalOf : MethodName := ⟨RX4, "principalOf", "(IJJ)J"⟩
abbrev cX4_repaidBy : ByteArray := prog_6_method_8_code
def yX4_repaidBy : MethodName := ⟨RX4, "repaidBy", "(JJJ)J"⟩
abbrev cX4_findLevel : ByteArray := prog_6_method_9_code
def yX4_findLevel : MethodName := ⟨RX4, "findLevel", "()V"⟩
abbrev cX4_isRepaidBy : ByteArray := prog_6_method_10_code
def yX4_isRepaidBy : MethodName := ⟨RX4, "isRepaidBy", "(J)Z"⟩
abbrev cX4_endPeriods : ByteArray := prog_6_method_11_code
def yX4_endPeriods : MethodName := ⟨RX4, "endPeriods", "(I)I"⟩
abbrev cX4_chargeLate : ByteArray := prog_6_method_12_code
def yX4_chargeLate : MethodName := ⟨RX4, "chargeLate", "(IIII)V"⟩
abbrev cX4_receive : ByteArray := prog_6_method_13_code
def yX4_receive : MethodName := ⟨RX4, "receive", "(J)J"⟩
abbrev cX4_payBill : ByteArray := prog_6_method_14_code
def yX4_payBill : MethodName := ⟨RX4, "payBill", "(IJ)J"⟩
abbrev cX4_giveUp : ByteArray := prog_6_method_15_code
def yX4_giveUp : MethodName := ⟨RX4, "giveUp", "()J"⟩
abbrev cX4_asks : ByteArray := prog_6_method_16_code
def yX4_asks : MethodName := ⟨RX4, "asks", "(I)J"⟩
abbrev cX4_owed : ByteArray := prog_6_method_17_code
def yX4_owed : MethodName := ⟨RX4, "owed", "()J"⟩
abbrev cX4_isSettled : ByteArray := prog_6_method_18_code
def yX4_isSettled : MethodName := ⟨RX4, "isSettled", "()Z"⟩
abbrev cX4_billsInArrears : ByteArray := prog_6_method_19_code
def yX4_billsInArrears : MethodName := ⟨RX4, "billsInArrears", "()I"⟩
abbrev cX4_periodOfBill : ByteArray := prog_6_method_20_code
def yX4_periodOfBill : MethodName := ⟨RX4, "periodOfBill", "(I)I"⟩
abbrev cX4_daysLate : ByteArray := prog_6_method_21_code
def yX4_daysLate : MethodName := ⟨RX4, "daysLate", "(I)I"⟩
def RX5 : String := "LoanBook$Plan"
def TX5 : u_T := fun k => match k with
  | 0 => ("LoanBook$Plan", "done", "I", false)
  | 1 => ("LoanBook$Plan", "periods", "I", false)
  | 2 => ("LoanBook$Plan", "interest", "[J", true)
  | 3 => ("LoanBook$Plan", "principal", "[J", true)
  | _ => ("LoanBook$Plan", "balance", "[J", true)
def tyX5 : Nat → FieldType := fun k => match k with
  | 0 => .int
  | 1 => .int
  | 2 => .array .long
  | 3 => .array .long
  | _ => .array .long
abbrev wsX50 : List Cond := u_ws RX5 TX5 5
theorem nmX5 : ∀ a, a < 5 → ∀ b, b < 5 → a ≠ b → (TX5 a).2.1 ≠ (TX5 b).2.1 := by decide +kernel
theorem tyX5_ok : ∀ k, k < 5 → parseFieldDescriptor (TX5 k).2.2.1 = some (tyX5 k) := by decide +kernel
abbrev cX5_init : ByteArray := prog_7_method_1_code
def yX5_init : MethodName := ⟨RX5, "<init>", "()V"⟩
abbrev cX5_follow : ByteArray := prog_7_method_2_code
def yX5_follow : MethodName := ⟨RX5, "follow", "(LLoanBook$Loan;)V"⟩
abbrev cX5_flow : ByteArray := prog_7_method_3_code
def yX5_flow : MethodName := ⟨RX5, "flow", "(I)J"⟩
abbrev cX5_bills : ByteArray := prog_7_method_4_code
def yX5_bills : MethodName := ⟨RX5, "bills", "()I"⟩
abbrev cX5_periodOfBill : ByteArray := prog_7_method_5_code
def yX5_periodOfBill : MethodName := ⟨RX5, "periodOfBill", "(I)I"⟩
abbrev cX5_totalInterest : ByteArray := prog_7_method_6_code
def yX5_totalInterest : MethodName := ⟨RX5, "totalInterest", "()J"⟩
abbrev cX5_greatestFlow : ByteArray := prog_7_method_7_code
def yX5_greatestFlow : MethodName := ⟨RX5, "greatestFlow", "()J"⟩
abbrev cX5_lastWithPrincipal : ByteArray := prog_7_method_8_code
def yX5_lastWithPrincipal : MethodName := ⟨RX5, "lastWithPrincipal", "()I"⟩
abbrev cX5_worth : ByteArray := prog_7_method_9_code
def yX5_worth : MethodName := ⟨RX5, "worth", "(D)D"⟩
abbrev cX5_worthByNumber : ByteArray := prog_7_method_10_code
def yX5_worthByNumber : MethodName := ⟨RX5, "worthByNumber", "(D)D"⟩
abbrev cX5_yieldBy : ByteArray := prog_7_method_11_code
def yX5_yieldBy : MethodName := ⟨RX5, "yieldBy", "(D)D"⟩
def RX6 : String := "LoanBook$Tape"
def TX6 : u_T := fun k => match k with
  | 0 => ("LoanBook$Tape", "length", "I", false)
  | 1 => ("LoanBook$Tape", "place", "I", false)
  | 2 => ("LoanBook$Tape", "letter", "I", false)
  | 3 => ("LoanBook$Tape", "bytes", "[I", true)
  | _ => ("LoanBook$Tape", "numbers", "[I", true)
def tyX6 : Nat → FieldType := fun k => match k with
  | 0 => .int
  | 1 => .int
  | 2 => .int
  | 3 => .array .int
  | _ => .array .int
abbrev wsX60 : List Cond := u_ws RX6 TX6 5
theorem nmX6 : ∀ a, a < 5 → ∀ b, b < 5 → a ≠ b → (TX6 a).2.1 ≠ (TX6 b).2.1 := by decide +kernel
theorem tyX6_ok : ∀ k, k < 5 → parseFieldDescriptor (TX6 k).2.2.1 = some (tyX6 k) := by decide +kernel
abbrev cX6_init : ByteArray := prog_8_method_1_code
def yX6_init : MethodName := ⟨RX6, "<init>", "()V"⟩
abbrev cX6_placeOfFault : ByteArray := prog_8_method_2_code
def yX6_placeOfFault : MethodName := ⟨RX6, "placeOfFault", "()I"⟩
abbrev cX6_readLine : ByteArray := prog_8_method_3_code
def yX6_readLine : MethodName := ⟨RX6, "readLine", "()Z"⟩
abbrev cX6_readNumber : ByteArray := prog_8_method_4_code
def yX6_readNumber : MethodName := ⟨RX6, "readNumber", "(I)Z"⟩
abbrev cX6_here : ByteArray := prog_8_method_5_code
def yX6_here : MethodName := ⟨RX6, "here", "()I"⟩
abbrev cX6_numbersOf : ByteArray := prog_8_method_6_code
def yX6_numbersOf : MethodName := ⟨RX6, "numbersOf", "(I)I"⟩
def RX7 : String := "LoanBook"
def TX7 : u_T := fun k => match k with
  | 0 => ("LoanBook", "book", "LLoanBook$Book;", true)
  | 1 => ("LoanBook", "ahead", "LLoanBook$Book;", true)
  | 2 => ("LoanBook", "kept", "LLoanBook$Book;", true)
  | 3 => ("LoanBook", "isKept", "Z", false)
  | 4 => ("LoanBook", "thought", "LLoanBook$Loan;", true)
  | 5 => ("LoanBook", "plan", "LLoanBook$Plan;", true)
  | 6 => ("LoanBook", "tape", "LLoanBook$Tape;", true)
  | _ => ("LoanBook", "holders", "[LLoanBook$Holder;", true)
def tyX7 : Nat → FieldType := fun k => match k with
  | 0 => .object "LoanBook$Book"
  | 1 => .object "LoanBook$Book"
  | 2 => .object "LoanBook$Book"
  | 3 => .boolean
  | 4 => .object "LoanBook$Loan"
  | 5 => .object "LoanBook$Plan"
  | 6 => .object "LoanBook$Tape"
  | _ => .array (.object "LoanBook$Holder")
abbrev wsX70 : List Cond := u_ws RX7 TX7 8
theorem nmX7 : ∀ a, a < 8 → ∀ b, b < 8 → a ≠ b → (TX7 a).2.1 ≠ (TX7 b).2.1 := by decide +kernel
theorem tyX7_ok : ∀ k, k < 8 → parseFieldDescriptor (TX7 k).2.2.1 = some (tyX7 k) := by decide +kernel
abbrev cX7_init : ByteArray := prog_1_method_1_code
def yX7_init : MethodName := ⟨RX7, "<init>", "()V"⟩
abbrev cX7_date : ByteArray := prog_1_method_2_code
def yX7_date : MethodName := ⟨RX7, "date", "(II)I"⟩
abbrev cX7_dayOf : ByteArray := prog_1_method_3_code
def yX7_dayOf : MethodName := ⟨RX7, "dayOf", "(III)I"⟩
abbrev cX7_interest : ByteArray := prog_1_method_4_code
def yX7_interest : MethodName := ⟨RX7, "interest", "(JIIII)J"⟩
abbrev cX7_loan : ByteArray := prog_1_method_5_code
def yX7_loan : MethodName := ⟨RX7, "loan", "(JIII)I"⟩
abbrev cX7_days : ByteArray := prog_1_method_6_code
def yX7_days : MethodName := ⟨RX7, "days", "(I)I"⟩
abbrev cX7_pay : ByteArray := prog_1_method_7_code
def yX7_pay : MethodName := ⟨RX7, "pay", "(IJ)J"⟩
abbrev cX7_reset : ByteArray := prog_1_method_8_code
def yX7_reset : MethodName := ⟨RX7, "reset", "(II)J"⟩
abbrev cX7_writeOff : ByteArray := prog_1_method_9_code
def yX7_writeOff : MethodName := ⟨RX7, "writeOff", "(I)J"⟩
abbrev cX7_rule : ByteArray := prog_1_method_10_code
def yX7_rule : MethodName := ⟨RX7, "rule", "(II)I"⟩
abbrev cX7_of : ByteArray := prog_1_method_11_code
def yX7_of : MethodName := ⟨RX7, "of", "(II)I"⟩
abbrev cX7_sum : ByteArray := prog_1_method_12_code
def yX7_sum : MethodName := ⟨RX7, "sum", "(II)J"⟩
abbrev cX7_bill : ByteArray := prog_1_method_13_code
def yX7_bill : MethodName := ⟨RX7, "bill", "(III)J"⟩
abbrev cX7_toCome : ByteArray := prog_1_method_14_code
def yX7_toCome : MethodName := ⟨RX7, "toCome", "(III)J"⟩
abbrev cX7_coming : ByteArray := prog_1_method_15_code
def yX7_coming : MethodName := ⟨RX7, "coming", "(II)J"⟩
abbrev cX7_value : ByteArray := prog_1_method_16_code
def yX7_value : MethodName := ⟨RX7, "value", "(IJ)J"⟩
abbrev cX7_yieldOf : ByteArray := prog_1_method_17_code
def yX7_yieldOf : MethodName := ⟨RX7, "yieldOf", "(IJ)J"⟩
abbrev cX7_near : ByteArray := prog_1_method_18_code
def yX7_near : MethodName := ⟨RX7, "near", "(IJ)I"⟩
abbrev cX7_duration : ByteArray := prog_1_method_19_code
def yX7_duration : MethodName := ⟨RX7, "duration", "(IJ)J"⟩
abbrev cX7_behind : ByteArray := prog_1_method_20_code
def yX7_behind : MethodName := ⟨RX7, "behind", "(I)I"⟩
abbrev cX7_settles : ByteArray := prog_1_method_21_code
def yX7_settles : MethodName := ⟨RX7, "settles", "(I)I"⟩
abbrev cX7_would : ByteArray := prog_1_method_22_code
def yX7_would : MethodName := ⟨RX7, "would", "(IJI)J"⟩
abbrev cX7_sooner : ByteArray := prog_1_method_23_code
def yX7_sooner : MethodName := ⟨RX7, "sooner", "(IJ)I"⟩
abbrev cX7_judge : ByteArray := prog_1_method_24_code
def yX7_judge : MethodName := ⟨RX7, "judge", "(II)I"⟩
abbrev cX7_feed : ByteArray := prog_1_method_25_code
def yX7_feed : MethodName := ⟨RX7, "feed", "(I)I"⟩
abbrev cX7_script : ByteArray := prog_1_method_26_code
def yX7_script : MethodName := ⟨RX7, "script", "()I"⟩
abbrev cX7_image : ByteArray := prog_1_method_27_code
def yX7_image : MethodName := ⟨RX7, "image", "()I"⟩
abbrev cX7_back : ByteArray := prog_1_method_28_code
def yX7_back : MethodName := ⟨RX7, "back", "()I"⟩
abbrev cX7_hold : ByteArray := prog_1_method_29_code
def yX7_hold : MethodName := ⟨RX7, "hold", "(III)I"⟩
abbrev cX7_row : ByteArray := prog_1_method_30_code
def yX7_row : MethodName := ⟨RX7, "row", "(II)I"⟩
abbrev cX7_put : ByteArray := prog_1_method_31_code
def yX7_put : MethodName := ⟨RX7, "put", "(IIJ)I"⟩
abbrev cX7_tells : ByteArray := prog_1_method_32_code
def yX7_tells : MethodName := ⟨RX7, "tells", "(II)J"⟩
abbrev cX7_count : ByteArray := prog_1_method_33_code
def yX7_count : MethodName := ⟨RX7, "count", "(I)I"⟩
abbrev cX7_isWithin : ByteArray := prog_1_method_34_code
def yX7_isWithin : MethodName := ⟨RX7, "isWithin", "(III)Z"⟩
abbrev cX7_isDay : ByteArray := prog_1_method_35_code
def yX7_isDay : MethodName := ⟨RX7, "isDay", "(I)Z"⟩
abbrev cX7_isRate : ByteArray := prog_1_method_36_code
def yX7_isRate : MethodName := ⟨RX7, "isRate", "(I)Z"⟩
abbrev cX7_isAmount : ByteArray := prog_1_method_37_code
def yX7_isAmount : MethodName := ⟨RX7, "isAmount", "(J)Z"⟩
abbrev cX7_isHolder : ByteArray := prog_1_method_38_code
def yX7_isHolder : MethodName := ⟨RX7, "isHolder", "(I)Z"⟩
abbrev cX7_fullHolders : ByteArray := prog_1_method_39_code
def yX7_fullHolders : MethodName := ⟨RX7, "fullHolders", "()I"⟩
abbrev cX7_loanTells : ByteArray := prog_1_method_40_code
def yX7_loanTells : MethodName := ⟨RX7, "loanTells", "(II)J"⟩
abbrev cX7_billTells : ByteArray := prog_1_method_41_code
def yX7_billTells : MethodName := ⟨RX7, "billTells", "(LLoanBook$Holder;I)J"⟩
abbrev cX7_doLine : ByteArray := prog_1_method_42_code
def yX7_doLine : MethodName := ⟨RX7, "doLine", "()J"⟩
def RX8 : String := "LoanBookModel"
def TX8 : u_T := fun k => match k with
  | 0 => ("LoanBookModel", "g", "[J", true)
  | 1 => ("LoanBookModel", "saved", "[J", true)
  | 2 => ("LoanBookModel", "whole", "[J", true)
  | 3 => ("LoanBookModel", "kept", "[J", true)
  | 4 => ("LoanBookModel", "isKept", "Z", false)
  | 5 => ("LoanBookModel", "comesDay", "[I", true)
  | 6 => ("LoanBookModel", "comesInterest", "[J", true)
  | 7 => ("LoanBookModel", "comesPrincipal", "[J", true)
  | 8 => ("LoanBookModel", "comesBalance", "[J", true)
  | 9 => ("LoanBookModel", "left", "I", false)
  | 10 => ("LoanBookModel", "split", "[J", true)
  | 11 => ("LoanBookModel", "tape", "[I", true)
  | 12 => ("LoanBookModel", "tapeMany", "I", false)
  | 13 => ("LoanBookModel", "held", "[I", true)
  | 14 => ("LoanBookModel", "heldLoan", "[I", true)
  | 15 => ("LoanBookModel", "heldDay", "[J", true)
  | 16 => ("LoanBookModel", "heldAsk", "[J", true)
  | 17 => ("LoanBookModel", "rowSize", "[I", true)
  | 18 => ("LoanBookModel", "rows", "[[J", true)
  | 19 => ("LoanBookModel", "spot", "I", false)
  | 20 => ("LoanBookModel", "fault", "I", false)
  | _ => ("LoanBookModel", "told", "[I", true)
def tyX8 : Nat → FieldType := fun k => match k with
  | 0 => .array .long
  | 1 => .array .long
  | 2 => .array .long
  | 3 => .array .long
  | 4 => .boolean
  | 5 => .array .int
  | 6 => .array .long
  | 7 => .array .long
  | 8 => .array .long
  | 9 => .int
  | 10 => .array .long
  | 11 => .array .int
  | 12 => .int
  | 13 => .array .int
  | 14 => .array .int
  | 15 => .array .long
  | 16 => .array .long
  | 17 => .array .int
  | 18 => .array (.array .long)
  | 19 => .int
  | 20 => .int
  | _ => .array .int
abbrev wsX80 : List Cond := u_ws RX8 TX8 22
theorem nmX8 : ∀ a, a < 22 → ∀ b, b < 22 → a ≠ b → (TX8 a).2.1 ≠ (TX8 b).2.1 := by decide +kernel
theorem tyX8_ok : ∀ k, k < 22 → parseFieldDescriptor (TX8 k).2.2.1 = some (tyX8 k) := by decide +kernel
abbrev cX8_init : ByteArray := prog_10_method_1_code
def yX8_init : MethodName := ⟨RX8, "<init>", "()V"⟩
abbrev cX8_in : ByteArray := prog_10_method_2_code
def yX8_in : MethodName := ⟨RX8, "in", "(JJJ)Z"⟩
abbrev cX8_take : ByteArray := prog_10_method_3_code
def yX8_take : MethodName := ⟨RX8, "take", "([J[J)V"⟩
abbrev cX8_isLeap : ByteArray := prog_10_method_4_code
def yX8_isLeap : MethodName := ⟨RX8, "isLeap", "(I)Z"⟩
abbrev cX8_lastOf : ByteArray := prog_10_method_5_code
def yX8_lastOf : MethodName := ⟨RX8, "lastOf", "(II)I"⟩
abbrev cX8_yearOf : ByteArray := prog_10_method_6_code
def yX8_yearOf : MethodName := ⟨RX8, "yearOf", "(I)I"⟩
abbrev cX8_yearStart : ByteArray := prog_10_method_7_code
def yX8_yearStart : MethodName := ⟨RX8, "yearStart", "(I)I"⟩
abbrev cX8_monthAndDay : ByteArray := prog_10_method_8_code
def yX8_monthAndDay : MethodName := ⟨RX8, "monthAndDay", "(I)I"⟩
abbrev cX8_toDay : ByteArray := prog_10_method_9_code
def yX8_toDay : MethodName := ⟨RX8, "toDay", "(III)I"⟩
abbrev cX8_isDay : ByteArray := prog_10_method_10_code
def yX8_isDay : MethodName := ⟨RX8, "isDay", "(I)Z"⟩
abbrev cX8_date : ByteArray := prog_10_method_11_code
def yX8_date : MethodName := ⟨RX8, "date", "(II)I"⟩
abbrev cX8_dayOf : ByteArray := prog_10_method_12_code
def yX8_dayOf : MethodName := ⟨RX8, "dayOf", "(III)I"⟩
abbrev cX8_monthsBehind : ByteArray := prog_10_method_13_code
def yX8_monthsBehind : MethodName := ⟨RX8, "monthsBehind", "(II)I"⟩
abbrev cX8_leapDays : ByteArray := prog_10_method_14_code
def yX8_leapDays : MethodName := ⟨RX8, "leapDays", "(II)I"⟩
abbrev cX8_thirties : ByteArray := prog_10_method_15_code
def yX8_thirties : MethodName := ⟨RX8, "thirties", "(II)I"⟩
abbrev cX8_interestOf : ByteArray := prog_10_method_16_code
def yX8_interestOf : MethodName := ⟨RX8, "interestOf", "(JJIII)J"⟩
abbrev cX8_interest : ByteArray := prog_10_method_17_code
def yX8_interest : MethodName := ⟨RX8, "interest", "(JIIII)J"⟩
abbrev cX8_isLoan : ByteArray := prog_10_method_18_code
def yX8_isLoan : MethodName := ⟨RX8, "isLoan", "(I)Z"⟩
abbrev cX8_at : ByteArray := prog_10_method_19_code
def yX8_at : MethodName := ⟨RX8, "at", "(II)J"⟩
abbrev cX8_sets : ByteArray := prog_10_method_20_code
def yX8_sets : MethodName := ⟨RX8, "sets", "(IIJ)V"⟩
abbrev cX8_endOf : ByteArray := prog_10_method_21_code
def yX8_endOf : MethodName := ⟨RX8, "endOf", "(II)I"⟩
abbrev cX8_periodInterest : ByteArray := prog_10_method_22_code
def yX8_periodInterest : MethodName := ⟨RX8, "periodInterest", "(IJI)J"⟩
abbrev cX8_cut : ByteArray := prog_10_method_23_code
def yX8_cut : MethodName := ⟨RX8, "cut", "(JJJ)J"⟩
abbrev cX8_repays : ByteArray := prog_10_method_24_code
def yX8_repays : MethodName := ⟨RX8, "repays", "(IJ)Z"⟩
abbrev cX8_level : ByteArray := prog_10_method_25_code
def yX8_level : MethodName := ⟨RX8, "level", "(I)V"⟩
abbrev cX8_loan : ByteArray := prog_10_method_26_code
def yX8_loan : MethodName := ⟨RX8, "loan", "(JIII)I"⟩
abbrev cX8_principalOf : ByteArray := prog_10_method_27_code
def yX8_principalOf : MethodName := ⟨RX8, "principalOf", "(IJJI)J"⟩
abbrev cX8_ends : ByteArray := prog_10_method_28_code
def yX8_ends : MethodName := ⟨RX8, "ends", "(I)Z"⟩
abbrev cX8_fees : ByteArray := prog_10_method_29_code
def yX8_fees : MethodName := ⟨RX8, "fees", "(I)V"⟩
abbrev cX8_days : ByteArray := prog_10_method_30_code
def yX8_days : MethodName := ⟨RX8, "days", "(I)I"⟩
abbrev cX8_paidOff : ByteArray := prog_10_method_31_code
def yX8_paidOff : MethodName := ⟨RX8, "paidOff", "(IIJ)J"⟩
abbrev cX8_firstGoes : ByteArray := prog_10_method_32_code
def yX8_firstGoes : MethodName := ⟨RX8, "firstGoes", "(I)V"⟩
abbrev cX8_pays : ByteArray := prog_10_method_33_code
def yX8_pays : MethodName := ⟨RX8, "pays", "(IJ)V"⟩
abbrev cX8_asks : ByteArray := prog_10_method_34_code
def yX8_asks : MethodName := ⟨RX8, "asks", "(II)J"⟩
abbrev cX8_isPaid : ByteArray := prog_10_method_35_code
def yX8_isPaid : MethodName := ⟨RX8, "isPaid", "(IJ)Z"⟩
abbrev cX8_pay : ByteArray := prog_10_method_36_code
def yX8_pay : MethodName := ⟨RX8, "pay", "(IJ)J"⟩
abbrev cX8_reset : ByteArray := prog_10_method_37_code
def yX8_reset : MethodName := ⟨RX8, "reset", "(II)J"⟩
abbrev cX8_writeOff : ByteArray := prog_10_method_38_code
def yX8_writeOff : MethodName := ⟨RX8, "writeOff", "(I)J"⟩
abbrev cX8_rule : ByteArray := prog_10_method_39_code
def yX8_rule : MethodName := ⟨RX8, "rule", "(II)I"⟩
abbrev cX8_of : ByteArray := prog_10_method_40_code
def yX8_of : MethodName := ⟨RX8, "of", "(II)I"⟩
abbrev cX8_owed : ByteArray := prog_10_method_41_code
def yX8_owed : MethodName := ⟨RX8, "owed", "(I)J"⟩
abbrev cX8_sum : ByteArray := prog_10_method_42_code
def yX8_sum : MethodName := ⟨RX8, "sum", "(II)J"⟩
abbrev cX8_bill : ByteArray := prog_10_method_43_code
def yX8_bill : MethodName := ⟨RX8, "bill", "(III)J"⟩
abbrev cX8_comes : ByteArray := prog_10_method_44_code
def yX8_comes : MethodName := ⟨RX8, "comes", "(I)V"⟩
abbrev cX8_flow : ByteArray := prog_10_method_45_code
def yX8_flow : MethodName := ⟨RX8, "flow", "(I)J"⟩
abbrev cX8_nth : ByteArray := prog_10_method_46_code
def yX8_nth : MethodName := ⟨RX8, "nth", "(I)I"⟩
abbrev cX8_toCome : ByteArray := prog_10_method_47_code
def yX8_toCome : MethodName := ⟨RX8, "toCome", "(III)J"⟩
abbrev cX8_coming : ByteArray := prog_10_method_48_code
def yX8_coming : MethodName := ⟨RX8, "coming", "(II)J"⟩
abbrev cX8_valueOf : ByteArray := prog_10_method_49_code
def yX8_valueOf : MethodName := ⟨RX8, "valueOf", "(DZ)D"⟩
abbrev cX8_isRate : ByteArray := prog_10_method_50_code
def yX8_isRate : MethodName := ⟨RX8, "isRate", "(D)Z"⟩
abbrev cX8_value : ByteArray := prog_10_method_51_code
def yX8_value : MethodName := ⟨RX8, "value", "(IJ)J"⟩
abbrev cX8_yields : ByteArray := prog_10_method_52_code
def yX8_yields : MethodName := ⟨RX8, "yields", "(J)D"⟩
abbrev cX8_yieldOf : ByteArray := prog_10_method_53_code
def yX8_yieldOf : MethodName := ⟨RX8, "yieldOf", "(IJ)J"⟩
abbrev cX8_near : ByteArray := prog_10_method_54_code
def yX8_near : MethodName := ⟨RX8, "near", "(IJ)I"⟩
abbrev cX8_duration : ByteArray := prog_10_method_55_code
def yX8_duration : MethodName := ⟨RX8, "duration", "(IJ)J"⟩
abbrev cX8_behind : ByteArray := prog_10_method_56_code
def yX8_behind : MethodName := ⟨RX8, "behind", "(I)I"⟩
abbrev cX8_settles : ByteArray := prog_10_method_57_code
def yX8_settles : MethodName := ⟨RX8, "settles", "(I)I"⟩
abbrev cX8_would : ByteArray := prog_10_method_58_code
def yX8_would : MethodName := ⟨RX8, "would", "(IJI)J"⟩
abbrev cX8_lastPrincipal : ByteArray := prog_10_method_59_code
def yX8_lastPrincipal : MethodName := ⟨RX8, "lastPrincipal", "(I)I"⟩
abbrev cX8_sooner : ByteArray := prog_10_method_60_code
def yX8_sooner : MethodName := ⟨RX8, "sooner", "(IJ)I"⟩
abbrev cX8_isHolder : ByteArray := prog_10_method_61_code
def yX8_isHolder : MethodName := ⟨RX8, "isHolder", "(I)Z"⟩
abbrev cX8_judge : ByteArray := prog_10_method_62_code
def yX8_judge : MethodName := ⟨RX8, "judge", "(II)I"⟩
abbrev cX8_feed : ByteArray := prog_10_method_63_code
def yX8_feed : MethodName := ⟨RX8, "feed", "(I)I"⟩
abbrev cX8_sees : ByteArray := prog_10_method_64_code
def yX8_sees : MethodName := ⟨RX8, "sees", "(II)Z"⟩
abbrev cX8_must : ByteArray := prog_10_method_65_code
def yX8_must : MethodName := ⟨RX8, "must", "(II)I"⟩
abbrev cX8_number : ByteArray := prog_10_method_66_code
def yX8_number : MethodName := ⟨RX8, "number", "()I"⟩
abbrev cX8_partsOf : ByteArray := prog_10_method_67_code
def yX8_partsOf : MethodName := ⟨RX8, "partsOf", "(I)I"⟩
abbrev cX8_line : ByteArray := prog_10_method_68_code
def yX8_line : MethodName := ⟨RX8, "line", "()I"⟩
abbrev cX8_isForm : ByteArray := prog_10_method_69_code
def yX8_isForm : MethodName := ⟨RX8, "isForm", "()Z"⟩
abbrev cX8_does : ByteArray := prog_10_method_70_code
def yX8_does : MethodName := ⟨RX8, "does", "(I)J"⟩
abbrev cX8_script : ByteArray := prog_10_method_71_code
def yX8_script : MethodName := ⟨RX8, "script", "()I"⟩
abbrev cX8_image : ByteArray := prog_10_method_72_code
def yX8_image : MethodName := ⟨RX8, "image", "()I"⟩
abbrev cX8_back : ByteArray := prog_10_method_73_code
def yX8_back : MethodName := ⟨RX8, "back", "()I"⟩
abbrev cX8_hold : ByteArray := prog_10_method_74_code
def yX8_hold : MethodName := ⟨RX8, "hold", "(III)I"⟩
abbrev cX8_row : ByteArray := prog_10_method_75_code
def yX8_row : MethodName := ⟨RX8, "row", "(II)I"⟩
abbrev cX8_put : ByteArray := prog_10_method_76_code
def yX8_put : MethodName := ⟨RX8, "put", "(IIJ)I"⟩
abbrev cX8_tells : ByteArray := prog_10_method_77_code
def yX8_tells : MethodName := ⟨RX8, "tells", "(II)J"⟩
abbrev cX8_bills : ByteArray := prog_10_method_78_code
def yX8_bills : MethodName := ⟨RX8, "bills", "()I"⟩
abbrev cX8_count : ByteArray := prog_10_method_79_code
def yX8_count : MethodName := ⟨RX8, "count", "(I)I"⟩
def RJx145de : String := "java/io/Serializable"
def TJx145de : u_T := fun k => match k with
  | _ => ("", "", "", false)
def tyJx145de : Nat → FieldType := fun k => match k with
  | _ => .int
abbrev wsJx145de0 : List Cond := u_ws RJx145de TJx145de 0
theorem nmJx145de : ∀ a, a < 0 → ∀ b, b < 0 → a ≠ b → (TJx145de a).2.1 ≠ (TJx145de b).2.1 := by decide +kernel
theorem tyJx145de_ok : ∀ k, k < 0 → parseFieldDescriptor (TJx145de k).2.2.1 = some (tyJx145de k) := by decide +kernel
def RJxb160c : String := "java/lang/Comparable"
def TJxb160c : u_T := fun k => match k with
  | _ => ("", "", "", false)
def tyJxb160c : Nat → FieldType := fun k => match k with
  | _ => .int
abbrev wsJxb160c0 : List Cond := u_ws RJxb160c TJxb160c 0
theorem nmJxb160c : ∀ a, a < 0 → ∀ b, b < 0 → a ≠ b → (TJxb160c a).2.1 ≠ (TJxb160c b).2.1 := by decide +kernel
theorem tyJxb160c_ok : ∀ k, k < 0 → parseFieldDescriptor (TJxb160c k).2.2.1 = some (tyJxb160c k) := by decide +kernel
def RJxe99ae : String := "java/lang/Double"
def TJxe99ae : u_T := fun k => match k with
  | _ => ("", "", "", false)
def tyJxe99ae : Nat → FieldType := fun k => match k with
  | _ => .int
abbrev wsJxe99ae0 : List Cond := u_ws RJxe99ae TJxe99ae 0
theorem nmJxe99ae : ∀ a, a < 0 → ∀ b, b < 0 → a ≠ b → (TJxe99ae a).2.1 ≠ (TJxe99ae b).2.1 := by decide +kernel
theorem tyJxe99ae_ok : ∀ k, k < 0 → parseFieldDescriptor (TJxe99ae k).2.2.1 = some (tyJxe99ae k) := by decide +kernel
abbrev cJxe99ae_isNaN_b9ae7 : ByteArray := prog_11_method_6_code
def yJxe99ae_isNaN_b9ae7 : MethodName := ⟨RJxe99ae, "isNaN", "(D)Z"⟩
abbrev cJxe99ae_doubleToLongBits_ccdee : ByteArray := prog_11_method_23_code
def yJxe99ae_doubleToLongBits_ccdee : MethodName := ⟨RJxe99ae, "doubleToLongBits", "(D)J"⟩
def RJxf58ca : String := "java/lang/Float"
def TJxf58ca : u_T := fun k => match k with
  | _ => ("", "", "", false)
def tyJxf58ca : Nat → FieldType := fun k => match k with
  | _ => .int
abbrev wsJxf58ca0 : List Cond := u_ws RJxf58ca TJxf58ca 0
theorem nmJxf58ca : ∀ a, a < 0 → ∀ b, b < 0 → a ≠ b → (TJxf58ca a).2.1 ≠ (TJxf58ca b).2.1 := by decide +kernel
theorem tyJxf58ca_ok : ∀ k, k < 0 → parseFieldDescriptor (TJxf58ca k).2.2.1 = some (tyJxf58ca k) := by decide +kernel
abbrev cJxf58ca_isNaN_12338 : ByteArray := prog_12_method_6_code
def yJxf58ca_isNaN_12338 : MethodName := ⟨RJxf58ca, "isNaN", "(F)Z"⟩
abbrev cJxf58ca_floatToIntBits_5c35a : ByteArray := prog_12_method_24_code
def yJxf58ca_floatToIntBits_5c35a : MethodName := ⟨RJxf58ca, "floatToIntBits", "(F)I"⟩
def RJ9 : String := "java/lang/Math"
def TJ9 : u_T := fun k => match k with
  | _ => ("", "", "", false)
def tyJ9 : Nat → FieldType := fun k => match k with
  | _ => .int
abbrev wsJ90 : List Cond := u_ws RJ9 TJ9 0
theorem nmJ9 : ∀ a, a < 0 → ∀ b, b < 0 → a ≠ b → (TJ9 a).2.1 ≠ (TJ9 b).2.1 := by decide +kernel
theorem tyJ9_ok : ∀ k, k < 0 → parseFieldDescriptor (TJ9 k).2.2.1 = some (tyJ9 k) := by decide +kernel
abbrev cJ9_floorMod_7cf53 : ByteArray := prog_13_method_50_code
def yJ9_floorMod_7cf53 : MethodName := ⟨RJ9, "floorMod", "(II)I"⟩
abbrev cJ9_max_7cf53 : ByteArray := prog_13_method_65_code
def yJ9_max_7cf53 : MethodName := ⟨RJ9, "max", "(II)I"⟩
abbrev cJ9_max_f86c9 : ByteArray := prog_13_method_66_code
def yJ9_max_f86c9 : MethodName := ⟨RJ9, "max", "(JJ)J"⟩
abbrev cJ9_min_7cf53 : ByteArray := prog_13_method_69_code
def yJ9_min_7cf53 : MethodName := ⟨RJ9, "min", "(II)I"⟩
abbrev cJ9_min_f86c9 : ByteArray := prog_13_method_70_code
def yJ9_min_f86c9 : MethodName := ⟨RJ9, "min", "(JJ)J"⟩
def RJxd2413 : String := "java/lang/Number"
def TJxd2413 : u_T := fun k => match k with
  | _ => ("", "", "", false)
def tyJxd2413 : Nat → FieldType := fun k => match k with
  | _ => .int
abbrev wsJxd24130 : List Cond := u_ws RJxd2413 TJxd2413 0
theorem nmJxd2413 : ∀ a, a < 0 → ∀ b, b < 0 → a ≠ b → (TJxd2413 a).2.1 ≠ (TJxd2413 b).2.1 := by decide +kernel
theorem tyJxd2413_ok : ∀ k, k < 0 → parseFieldDescriptor (TJxd2413 k).2.2.1 = some (tyJxd2413 k) := by decide +kernel
def RJ10 : String := "java/lang/System"
def TJ10 : u_T := fun k => match k with
  | _ => ("", "", "", false)
def tyJ10 : Nat → FieldType := fun k => match k with
  | _ => .int
abbrev wsJ100 : List Cond := u_ws RJ10 TJ10 0
theorem nmJ10 : ∀ a, a < 0 → ∀ b, b < 0 → a ≠ b → (TJ10 a).2.1 ≠ (TJ10 b).2.1 := by decide +kernel
theorem tyJ10_ok : ∀ k, k < 0 → parseFieldDescriptor (TJ10 k).2.2.1 = some (tyJ10 k) := by decide +kernel
def RJxfd54e : String := "java/lang/constant/Constable"
def TJxfd54e : u_T := fun k => match k with
  | _ => ("", "", "", false)
def tyJxfd54e : Nat → FieldType := fun k => match k with
  | _ => .int
abbrev wsJxfd54e0 : List Cond := u_ws RJxfd54e TJxfd54e 0
theorem nmJxfd54e : ∀ a, a < 0 → ∀ b, b < 0 → a ≠ b → (TJxfd54e a).2.1 ≠ (TJxfd54e b).2.1 := by decide +kernel
theorem tyJxfd54e_ok : ∀ k, k < 0 → parseFieldDescriptor (TJxfd54e k).2.2.1 = some (tyJxfd54e k) := by decide +kernel
def RJx3cf43 : String := "java/lang/constant/ConstantDesc"
def TJx3cf43 : u_T := fun k => match k with
  | _ => ("", "", "", false)
def tyJx3cf43 : Nat → FieldType := fun k => match k with
  | _ => .int
abbrev wsJx3cf430 : List Cond := u_ws RJx3cf43 TJx3cf43 0
theorem nmJx3cf43 : ∀ a, a < 0 → ∀ b, b < 0 → a ≠ b → (TJx3cf43 a).2.1 ≠ (TJx3cf43 b).2.1 := by decide +kernel
theorem tyJx3cf43_ok : ∀ k, k < 0 → parseFieldDescriptor (TJx3cf43 k).2.2.1 = some (tyJx3cf43 k) := by decide +kernel
def RJ7 : String := "java/util/Arrays"
def TJ7 : u_T := fun k => match k with
  | _ => ("", "", "", false)
def tyJ7 : Nat → FieldType := fun k => match k with
  | _ => .int
abbrev wsJ70 : List Cond := u_ws RJ7 TJ7 0
theorem nmJ7 : ∀ a, a < 0 → ∀ b, b < 0 → a ≠ b → (TJ7 a).2.1 ≠ (TJ7 b).2.1 := by decide +kernel
theorem tyJ7_ok : ∀ k, k < 0 → parseFieldDescriptor (TJ7 k).2.2.1 = some (tyJ7 k) := by decide +kernel
abbrev cJ7_fill_d0a16 : ByteArray := prog_16_method_101_code
def yJ7_fill_d0a16 : MethodName := ⟨RJ7, "fill", "([JJ)V"⟩
def RL : String := "LoanBookLaw"
abbrev cL_law : ByteArray := code
def yL_law : MethodName := ⟨RL, "law", "([I)Z"⟩
end
section
theorem dJ7_fill_d0a16_0 : decode cJ7_fill_d0a16 0 = .ok (.iconst 0, 1) := by decide +kernel
theorem dJ7_fill_d0a16_1 : decode cJ7_fill_d0a16 1 = .ok (.istore_n 3, 1) := by decide +kernel
theorem dJ7_fill_d0a16_2 : decode cJ7_fill_d0a16 2 = .ok (.aload_n 0, 1) := by decide +kernel
theorem dJ7_fill_d0a16_3 : decode cJ7_fill_d0a16 3 = .ok (.arraylength, 1) := by decide +kernel
theorem dJ7_fill_d0a16_4 : decode cJ7_fill_d0a16 4 = .ok (.istore 4, 2) := by decide +kernel
theorem dJ7_fill_d0a16_6 : decode cJ7_fill_d0a16 6 = .ok (.iload_n 3, 1) := by decide +kernel
theorem dJ7_fill_d0a16_7 : decode cJ7_fill_d0a16 7 = .ok (.iload 4, 2) := by decide +kernel
theorem dJ7_fill_d0a16_9 : decode cJ7_fill_d0a16 9 = .ok (.if_icmp .ge 13, 3) := by decide +kernel
theorem dJ7_fill_d0a16_12 : decode cJ7_fill_d0a16 12 = .ok (.aload_n 0, 1) := by decide +kernel
theorem dJ7_fill_d0a16_13 : decode cJ7_fill_d0a16 13 = .ok (.iload_n 3, 1) := by decide +kernel
theorem dJ7_fill_d0a16_14 : decode cJ7_fill_d0a16 14 = .ok (.lload_n 1, 1) := by decide +kernel
theorem dJ7_fill_d0a16_15 : decode cJ7_fill_d0a16 15 = .ok (.lastore, 1) := by decide +kernel
theorem dJ7_fill_d0a16_16 : decode cJ7_fill_d0a16 16 = .ok (.iinc 3 1, 3) := by decide +kernel
theorem dJ7_fill_d0a16_19 : decode cJ7_fill_d0a16 19 = .ok (.goto (-13), 3) := by decide +kernel
theorem dJ7_fill_d0a16_22 : decode cJ7_fill_d0a16 22 = .ok (.return_, 1) := by decide +kernel
end
section
theorem dJ9_floorMod_7cf53_0 : decode cJ9_floorMod_7cf53 0 = .ok (.iload_n 0, 1) := by decide +kernel
theorem dJ9_floorMod_7cf53_1 : decode cJ9_floorMod_7cf53 1 = .ok (.iload_n 1, 1) := by decide +kernel
theorem dJ9_floorMod_7cf53_2 : decode cJ9_floorMod_7cf53 2 = .ok (.irem, 1) := by decide +kernel
theorem dJ9_floorMod_7cf53_3 : decode cJ9_floorMod_7cf53 3 = .ok (.istore_n 2, 1) := by decide +kernel
theorem dJ9_floorMod_7cf53_4 : decode cJ9_floorMod_7cf53 4 = .ok (.iload_n 0, 1) := by decide +kernel
theorem dJ9_floorMod_7cf53_5 : decode cJ9_floorMod_7cf53 5 = .ok (.iload_n 1, 1) := by decide +kernel
theorem dJ9_floorMod_7cf53_6 : decode cJ9_floorMod_7cf53 6 = .ok (.ixor, 1) := by decide +kernel
theorem dJ9_floorMod_7cf53_7 : decode cJ9_floorMod_7cf53 7 = .ok (.ifCond .ge 11, 3) := by decide +kernel
theorem dJ9_floorMod_7cf53_10 : decode cJ9_floorMod_7cf53 10 = .ok (.iload_n 2, 1) := by decide +kernel
theorem dJ9_floorMod_7cf53_11 : decode cJ9_floorMod_7cf53 11 = .ok (.ifCond .eq 7, 3) := by decide +kernel
theorem dJ9_floorMod_7cf53_14 : decode cJ9_floorMod_7cf53 14 = .ok (.iload_n 2, 1) := by decide +kernel
theorem dJ9_floorMod_7cf53_15 : decode cJ9_floorMod_7cf53 15 = .ok (.iload_n 1, 1) := by decide +kernel
theorem dJ9_floorMod_7cf53_16 : decode cJ9_floorMod_7cf53 16 = .ok (.iadd, 1) := by decide +kernel
theorem dJ9_floorMod_7cf53_17 : decode cJ9_floorMod_7cf53 17 = .ok (.ireturn, 1) := by decide +kernel
theorem dJ9_floorMod_7cf53_18 : decode cJ9_floorMod_7cf53 18 = .ok (.iload_n 2, 1) := by decide +kernel
theorem dJ9_floorMod_7cf53_19 : decode cJ9_floorMod_7cf53 19 = .ok (.ireturn, 1) := by decide +kernel
theorem dJ9_max_7cf53_0 : decode cJ9_max_7cf53 0 = .ok (.iload_n 0, 1) := by decide +kernel
theorem dJ9_max_7cf53_1 : decode cJ9_max_7cf53 1 = .ok (.iload_n 1, 1) := by decide +kernel
theorem dJ9_max_7cf53_2 : decode cJ9_max_7cf53 2 = .ok (.if_icmp .lt 7, 3) := by decide +kernel
theorem dJ9_max_7cf53_5 : decode cJ9_max_7cf53 5 = .ok (.iload_n 0, 1) := by decide +kernel
theorem dJ9_max_7cf53_6 : decode cJ9_max_7cf53 6 = .ok (.goto 4, 3) := by decide +kernel
theorem dJ9_max_7cf53_9 : decode cJ9_max_7cf53 9 = .ok (.iload_n 1, 1) := by decide +kernel
theorem dJ9_max_7cf53_10 : decode cJ9_max_7cf53 10 = .ok (.ireturn, 1) := by decide +kernel
theorem dJ9_max_f86c9_0 : decode cJ9_max_f86c9 0 = .ok (.lload_n 0, 1) := by decide +kernel
theorem dJ9_max_f86c9_1 : decode cJ9_max_f86c9 1 = .ok (.lload_n 2, 1) := by decide +kernel
theorem dJ9_max_f86c9_2 : decode cJ9_max_f86c9 2 = .ok (.lcmp, 1) := by decide +kernel
theorem dJ9_max_f86c9_3 : decode cJ9_max_f86c9 3 = .ok (.ifCond .lt 7, 3) := by decide +kernel
theorem dJ9_max_f86c9_6 : decode cJ9_max_f86c9 6 = .ok (.lload_n 0, 1) := by decide +kernel
theorem dJ9_max_f86c9_7 : decode cJ9_max_f86c9 7 = .ok (.goto 4, 3) := by decide +kernel
theorem dJ9_max_f86c9_10 : decode cJ9_max_f86c9 10 = .ok (.lload_n 2, 1) := by decide +kernel
theorem dJ9_max_f86c9_11 : decode cJ9_max_f86c9 11 = .ok (.lreturn, 1) := by decide +kernel
theorem dJ9_min_7cf53_0 : decode cJ9_min_7cf53 0 = .ok (.iload_n 0, 1) := by decide +kernel
theorem dJ9_min_7cf53_1 : decode cJ9_min_7cf53 1 = .ok (.iload_n 1, 1) := by decide +kernel
theorem dJ9_min_7cf53_2 : decode cJ9_min_7cf53 2 = .ok (.if_icmp .gt 7, 3) := by decide +kernel
theorem dJ9_min_7cf53_5 : decode cJ9_min_7cf53 5 = .ok (.iload_n 0, 1) := by decide +kernel
theorem dJ9_min_7cf53_6 : decode cJ9_min_7cf53 6 = .ok (.goto 4, 3) := by decide +kernel
theorem dJ9_min_7cf53_9 : decode cJ9_min_7cf53 9 = .ok (.iload_n 1, 1) := by decide +kernel
theorem dJ9_min_7cf53_10 : decode cJ9_min_7cf53 10 = .ok (.ireturn, 1) := by decide +kernel
theorem dJ9_min_f86c9_0 : decode cJ9_min_f86c9 0 = .ok (.lload_n 0, 1) := by decide +kernel
theorem dJ9_min_f86c9_1 : decode cJ9_min_f86c9 1 = .ok (.lload_n 2, 1) := by decide +kernel
theorem dJ9_min_f86c9_2 : decode cJ9_min_f86c9 2 = .ok (.lcmp, 1) := by decide +kernel
theorem dJ9_min_f86c9_3 : decode cJ9_min_f86c9 3 = .ok (.ifCond .gt 7, 3) := by decide +kernel
theorem dJ9_min_f86c9_6 : decode cJ9_min_f86c9 6 = .ok (.lload_n 0, 1) := by decide +kernel
theorem dJ9_min_f86c9_7 : decode cJ9_min_f86c9 7 = .ok (.goto 4, 3) := by decide +kernel
theorem dJ9_min_f86c9_10 : decode cJ9_min_f86c9 10 = .ok (.lload_n 2, 1) := by decide +kernel
theorem dJ9_min_f86c9_11 : decode cJ9_min_f86c9 11 = .ok (.lreturn, 1) := by decide +kernel
end
section
theorem dJxe99ae_isNaN_b9ae7_0 : decode cJxe99ae_isNaN_b9ae7 0 = .ok (.dload_n 0, 1) := by decide +kernel
theorem dJxe99ae_isNaN_b9ae7_1 : decode cJxe99ae_isNaN_b9ae7 1 = .ok (.dload_n 0, 1) := by decide +kernel
theorem dJxe99ae_isNaN_b9ae7_2 : decode cJxe99ae_isNaN_b9ae7 2 = .ok (.dcmp .l, 1) := by decide +kernel
theorem dJxe99ae_isNaN_b9ae7_3 : decode cJxe99ae_isNaN_b9ae7 3 = .ok (.ifCond .eq 7, 3) := by decide +kernel
theorem dJxe99ae_isNaN_b9ae7_6 : decode cJxe99ae_isNaN_b9ae7 6 = .ok (.iconst 1, 1) := by decide +kernel
theorem dJxe99ae_isNaN_b9ae7_7 : decode cJxe99ae_isNaN_b9ae7 7 = .ok (.goto 4, 3) := by decide +kernel
theorem dJxe99ae_isNaN_b9ae7_10 : decode cJxe99ae_isNaN_b9ae7 10 = .ok (.iconst 0, 1) := by decide +kernel
theorem dJxe99ae_isNaN_b9ae7_11 : decode cJxe99ae_isNaN_b9ae7 11 = .ok (.ireturn, 1) := by decide +kernel
theorem dJxe99ae_doubleToLongBits_ccdee_0 : decode cJxe99ae_doubleToLongBits_ccdee 0 = .ok (.dload_n 0, 1) := by decide +kernel
theorem dJxe99ae_doubleToLongBits_ccdee_1 : decode cJxe99ae_doubleToLongBits_ccdee 1 = .ok (.invokestatic 122, 3) := by decide +kernel
theorem dJxe99ae_doubleToLongBits_ccdee_4 : decode cJxe99ae_doubleToLongBits_ccdee 4 = .ok (.ifCond .ne 8, 3) := by decide +kernel
theorem dJxe99ae_doubleToLongBits_ccdee_7 : decode cJxe99ae_doubleToLongBits_ccdee 7 = .ok (.dload_n 0, 1) := by decide +kernel
theorem dJxe99ae_doubleToLongBits_ccdee_8 : decode cJxe99ae_doubleToLongBits_ccdee 8 = .ok (.invokestatic 134, 3) := by decide +kernel
theorem dJxe99ae_doubleToLongBits_ccdee_11 : decode cJxe99ae_doubleToLongBits_ccdee 11 = .ok (.lreturn, 1) := by decide +kernel
theorem dJxe99ae_doubleToLongBits_ccdee_12 : decode cJxe99ae_doubleToLongBits_ccdee 12 = .ok (.ldc2_w 137, 3) := by decide +kernel
theorem dJxe99ae_doubleToLongBits_ccdee_15 : decode cJxe99ae_doubleToLongBits_ccdee 15 = .ok (.lreturn, 1) := by decide +kernel
end
section
theorem dJxf58ca_isNaN_12338_0 : decode cJxf58ca_isNaN_12338 0 = .ok (.fload_n 0, 1) := by decide +kernel
theorem dJxf58ca_isNaN_12338_1 : decode cJxf58ca_isNaN_12338 1 = .ok (.fload_n 0, 1) := by decide +kernel
theorem dJxf58ca_isNaN_12338_2 : decode cJxf58ca_isNaN_12338 2 = .ok (.fcmp .l, 1) := by decide +kernel
theorem dJxf58ca_isNaN_12338_3 : decode cJxf58ca_isNaN_12338 3 = .ok (.ifCond .eq 7, 3) := by decide +kernel
theorem dJxf58ca_isNaN_12338_6 : decode cJxf58ca_isNaN_12338 6 = .ok (.iconst 1, 1) := by decide +kernel
theorem dJxf58ca_isNaN_12338_7 : decode cJxf58ca_isNaN_12338 7 = .ok (.goto 4, 3) := by decide +kernel
theorem dJxf58ca_isNaN_12338_10 : decode cJxf58ca_isNaN_12338 10 = .ok (.iconst 0, 1) := by decide +kernel
theorem dJxf58ca_isNaN_12338_11 : decode cJxf58ca_isNaN_12338 11 = .ok (.ireturn, 1) := by decide +kernel
theorem dJxf58ca_floatToIntBits_5c35a_0 : decode cJxf58ca_floatToIntBits_5c35a 0 = .ok (.fload_n 0, 1) := by decide +kernel
theorem dJxf58ca_floatToIntBits_5c35a_1 : decode cJxf58ca_floatToIntBits_5c35a 1 = .ok (.invokestatic 59, 3) := by decide +kernel
theorem dJxf58ca_floatToIntBits_5c35a_4 : decode cJxf58ca_floatToIntBits_5c35a 4 = .ok (.ifCond .ne 8, 3) := by decide +kernel
theorem dJxf58ca_floatToIntBits_5c35a_7 : decode cJxf58ca_floatToIntBits_5c35a 7 = .ok (.fload_n 0, 1) := by decide +kernel
theorem dJxf58ca_floatToIntBits_5c35a_8 : decode cJxf58ca_floatToIntBits_5c35a 8 = .ok (.invokestatic 74, 3) := by decide +kernel
theorem dJxf58ca_floatToIntBits_5c35a_11 : decode cJxf58ca_floatToIntBits_5c35a 11 = .ok (.ireturn, 1) := by decide +kernel
theorem dJxf58ca_floatToIntBits_5c35a_12 : decode cJxf58ca_floatToIntBits_5c35a 12 = .ok (.ldc 77, 2) := by decide +kernel
theorem dJxf58ca_floatToIntBits_5c35a_14 : decode cJxf58ca_floatToIntBits_5c35a 14 = .ok (.ireturn, 1) := by decide +kernel
end
section
theorem dL_law_0 : decode cL_law 0 = .ok (.new 7, 3) := by decide +kernel
theorem dL_law_3 : decode cL_law 3 = .ok (.dup, 1) := by decide +kernel
theorem dL_law_4 : decode cL_law 4 = .ok (.invokespecial 9, 3) := by decide +kernel
theorem dL_law_7 : decode cL_law 7 = .ok (.astore_n 1, 1) := by decide +kernel
theorem dL_law_8 : decode cL_law 8 = .ok (.new 10, 3) := by decide +kernel
theorem dL_law_11 : decode cL_law 11 = .ok (.dup, 1) := by decide +kernel
theorem dL_law_12 : decode cL_law 12 = .ok (.invokespecial 12, 3) := by decide +kernel
theorem dL_law_15 : decode cL_law 15 = .ok (.astore_n 2, 1) := by decide +kernel
theorem dL_law_16 : decode cL_law 16 = .ok (.iconst 0, 1) := by decide +kernel
theorem dL_law_17 : decode cL_law 17 = .ok (.istore_n 3, 1) := by decide +kernel
theorem dL_law_18 : decode cL_law 18 = .ok (.iload_n 3, 1) := by decide +kernel
theorem dL_law_19 : decode cL_law 19 = .ok (.aload_n 0, 1) := by decide +kernel
theorem dL_law_20 : decode cL_law 20 = .ok (.arraylength, 1) := by decide +kernel
theorem dL_law_21 : decode cL_law 21 = .ok (.bipush 7, 2) := by decide +kernel
theorem dL_law_23 : decode cL_law 23 = .ok (.isub, 1) := by decide +kernel
theorem dL_law_24 : decode cL_law 24 = .ok (.if_icmp .gt 1519, 3) := by decide +kernel
theorem dL_law_27 : decode cL_law 27 = .ok (.aload_n 0, 1) := by decide +kernel
theorem dL_law_28 : decode cL_law 28 = .ok (.iload_n 3, 1) := by decide +kernel
theorem dL_law_29 : decode cL_law 29 = .ok (.iaload, 1) := by decide +kernel
theorem dL_law_30 : decode cL_law 30 = .ok (.bipush 31, 2) := by decide +kernel
theorem dL_law_32 : decode cL_law 32 = .ok (.iand, 1) := by decide +kernel
theorem dL_law_33 : decode cL_law 33 = .ok (.tableswitch 1504 0 31 #[143, 176, 219, 315, 398, 421, 485, 519, 543, 576, 609, 643, 687, 731, 765, 829, 893, 956, 1020, 1043, 1066, 1140, 1203, 1236, 1259, 1272, 1285, 1298, 1341, 1374, 1447, 1481], 143) := by decide +kernel
theorem dL_law_176 : decode cL_law 176 = .ok (.aload_n 1, 1) := by decide +kernel
theorem dL_law_177 : decode cL_law 177 = .ok (.aload_n 0, 1) := by decide +kernel
theorem dL_law_178 : decode cL_law 178 = .ok (.iload_n 3, 1) := by decide +kernel
theorem dL_law_179 : decode cL_law 179 = .ok (.iconst 1, 1) := by decide +kernel
theorem dL_law_180 : decode cL_law 180 = .ok (.iadd, 1) := by decide +kernel
theorem dL_law_181 : decode cL_law 181 = .ok (.iaload, 1) := by decide +kernel
theorem dL_law_182 : decode cL_law 182 = .ok (.aload_n 0, 1) := by decide +kernel
theorem dL_law_183 : decode cL_law 183 = .ok (.iload_n 3, 1) := by decide +kernel
theorem dL_law_184 : decode cL_law 184 = .ok (.iconst 2, 1) := by decide +kernel
theorem dL_law_185 : decode cL_law 185 = .ok (.iadd, 1) := by decide +kernel
theorem dL_law_186 : decode cL_law 186 = .ok (.iaload, 1) := by decide +kernel
theorem dL_law_187 : decode cL_law 187 = .ok (.invokevirtual 13, 3) := by decide +kernel
theorem dL_law_190 : decode cL_law 190 = .ok (.aload_n 2, 1) := by decide +kernel
theorem dL_law_191 : decode cL_law 191 = .ok (.aload_n 0, 1) := by decide +kernel
theorem dL_law_192 : decode cL_law 192 = .ok (.iload_n 3, 1) := by decide +kernel
theorem dL_law_193 : decode cL_law 193 = .ok (.iconst 1, 1) := by decide +kernel
theorem dL_law_194 : decode cL_law 194 = .ok (.iadd, 1) := by decide +kernel
theorem dL_law_195 : decode cL_law 195 = .ok (.iaload, 1) := by decide +kernel
theorem dL_law_196 : decode cL_law 196 = .ok (.aload_n 0, 1) := by decide +kernel
theorem dL_law_197 : decode cL_law 197 = .ok (.iload_n 3, 1) := by decide +kernel
theorem dL_law_198 : decode cL_law 198 = .ok (.iconst 2, 1) := by decide +kernel
theorem dL_law_199 : decode cL_law 199 = .ok (.iadd, 1) := by decide +kernel
theorem dL_law_200 : decode cL_law 200 = .ok (.iaload, 1) := by decide +kernel
theorem dL_law_201 : decode cL_law 201 = .ok (.invokevirtual 17, 3) := by decide +kernel
theorem dL_law_204 : decode cL_law 204 = .ok (.if_icmp .eq 1333, 3) := by decide +kernel
theorem dL_law_207 : decode cL_law 207 = .ok (.iconst 0, 1) := by decide +kernel
theorem dL_law_208 : decode cL_law 208 = .ok (.ireturn, 1) := by decide +kernel
theorem dL_law_209 : decode cL_law 209 = .ok (.aload_n 1, 1) := by decide +kernel
theorem dL_law_210 : decode cL_law 210 = .ok (.aload_n 0, 1) := by decide +kernel
theorem dL_law_211 : decode cL_law 211 = .ok (.iload_n 3, 1) := by decide +kernel
theorem dL_law_212 : decode cL_law 212 = .ok (.iconst 1, 1) := by decide +kernel
theorem dL_law_213 : decode cL_law 213 = .ok (.iadd, 1) := by decide +kernel
theorem dL_law_214 : decode cL_law 214 = .ok (.iaload, 1) := by decide +kernel
theorem dL_law_215 : decode cL_law 215 = .ok (.aload_n 0, 1) := by decide +kernel
theorem dL_law_216 : decode cL_law 216 = .ok (.iload_n 3, 1) := by decide +kernel
theorem dL_law_217 : decode cL_law 217 = .ok (.iconst 2, 1) := by decide +kernel
theorem dL_law_218 : decode cL_law 218 = .ok (.iadd, 1) := by decide +kernel
theorem dL_law_219 : decode cL_law 219 = .ok (.iaload, 1) := by decide +kernel
theorem dL_law_220 : decode cL_law 220 = .ok (.aload_n 0, 1) := by decide +kernel
theorem dL_law_221 : decode cL_law 221 = .ok (.iload_n 3, 1) := by decide +kernel
theorem dL_law_222 : decode cL_law 222 = .ok (.iconst 3, 1) := by decide +kernel
theorem dL_law_223 : decode cL_law 223 = .ok (.iadd, 1) := by decide +kernel
theorem dL_law_224 : decode cL_law 224 = .ok (.iaload, 1) := by decide +kernel
theorem dL_law_225 : decode cL_law 225 = .ok (.invokevirtual 18, 3) := by decide +kernel
theorem dL_law_228 : decode cL_law 228 = .ok (.aload_n 2, 1) := by decide +kernel
theorem dL_law_229 : decode cL_law 229 = .ok (.aload_n 0, 1) := by decide +kernel
theorem dL_law_230 : decode cL_law 230 = .ok (.iload_n 3, 1) := by decide +kernel
theorem dL_law_231 : decode cL_law 231 = .ok (.iconst 1, 1) := by decide +kernel
theorem dL_law_232 : decode cL_law 232 = .ok (.iadd, 1) := by decide +kernel
theorem dL_law_233 : decode cL_law 233 = .ok (.iaload, 1) := by decide +kernel
theorem dL_law_234 : decode cL_law 234 = .ok (.aload_n 0, 1) := by decide +kernel
theorem dL_law_235 : decode cL_law 235 = .ok (.iload_n 3, 1) := by decide +kernel
theorem dL_law_236 : decode cL_law 236 = .ok (.iconst 2, 1) := by decide +kernel
theorem dL_law_237 : decode cL_law 237 = .ok (.iadd, 1) := by decide +kernel
theorem dL_law_238 : decode cL_law 238 = .ok (.iaload, 1) := by decide +kernel
theorem dL_law_239 : decode cL_law 239 = .ok (.aload_n 0, 1) := by decide +kernel
theorem dL_law_240 : decode cL_law 240 = .ok (.iload_n 3, 1) := by decide +kernel
theorem dL_law_241 : decode cL_law 241 = .ok (.iconst 3, 1) := by decide +kernel
theorem dL_law_242 : decode cL_law 242 = .ok (.iadd, 1) := by decide +kernel
theorem dL_law_243 : decode cL_law 243 = .ok (.iaload, 1) := by decide +kernel
theorem dL_law_244 : decode cL_law 244 = .ok (.invokevirtual 22, 3) := by decide +kernel
theorem dL_law_247 : decode cL_law 247 = .ok (.if_icmp .eq 1290, 3) := by decide +kernel
theorem dL_law_250 : decode cL_law 250 = .ok (.iconst 0, 1) := by decide +kernel
theorem dL_law_251 : decode cL_law 251 = .ok (.ireturn, 1) := by decide +kernel
theorem dL_law_252 : decode cL_law 252 = .ok (.aload_n 1, 1) := by decide +kernel
theorem dL_law_253 : decode cL_law 253 = .ok (.aload_n 0, 1) := by decide +kernel
theorem dL_law_254 : decode cL_law 254 = .ok (.iload_n 3, 1) := by decide +kernel
theorem dL_law_255 : decode cL_law 255 = .ok (.iconst 1, 1) := by decide +kernel
theorem dL_law_256 : decode cL_law 256 = .ok (.iadd, 1) := by decide +kernel
theorem dL_law_257 : decode cL_law 257 = .ok (.iaload, 1) := by decide +kernel
theorem dL_law_258 : decode cL_law 258 = .ok (.i2l, 1) := by decide +kernel
theorem dL_law_259 : decode cL_law 259 = .ok (.bipush 32, 2) := by decide +kernel
theorem dL_law_261 : decode cL_law 261 = .ok (.lshl, 1) := by decide +kernel
theorem dL_law_262 : decode cL_law 262 = .ok (.aload_n 0, 1) := by decide +kernel
theorem dL_law_263 : decode cL_law 263 = .ok (.iload_n 3, 1) := by decide +kernel
theorem dL_law_264 : decode cL_law 264 = .ok (.iconst 2, 1) := by decide +kernel
theorem dL_law_265 : decode cL_law 265 = .ok (.iadd, 1) := by decide +kernel
theorem dL_law_266 : decode cL_law 266 = .ok (.iaload, 1) := by decide +kernel
theorem dL_law_267 : decode cL_law 267 = .ok (.i2l, 1) := by decide +kernel
theorem dL_law_268 : decode cL_law 268 = .ok (.ldc2_w 23, 3) := by decide +kernel
theorem dL_law_271 : decode cL_law 271 = .ok (.land, 1) := by decide +kernel
theorem dL_law_272 : decode cL_law 272 = .ok (.lor, 1) := by decide +kernel
theorem dL_law_273 : decode cL_law 273 = .ok (.aload_n 0, 1) := by decide +kernel
theorem dL_law_274 : decode cL_law 274 = .ok (.iload_n 3, 1) := by decide +kernel
theorem dL_law_275 : decode cL_law 275 = .ok (.iconst 3, 1) := by decide +kernel
theorem dL_law_276 : decode cL_law 276 = .ok (.iadd, 1) := by decide +kernel
theorem dL_law_277 : decode cL_law 277 = .ok (.iaload, 1) := by decide +kernel
theorem dL_law_278 : decode cL_law 278 = .ok (.aload_n 0, 1) := by decide +kernel
theorem dL_law_279 : decode cL_law 279 = .ok (.iload_n 3, 1) := by decide +kernel
theorem dL_law_280 : decode cL_law 280 = .ok (.iconst 4, 1) := by decide +kernel
theorem dL_law_281 : decode cL_law 281 = .ok (.iadd, 1) := by decide +kernel
theorem dL_law_282 : decode cL_law 282 = .ok (.iaload, 1) := by decide +kernel
theorem dL_law_283 : decode cL_law 283 = .ok (.aload_n 0, 1) := by decide +kernel
theorem dL_law_284 : decode cL_law 284 = .ok (.iload_n 3, 1) := by decide +kernel
theorem dL_law_285 : decode cL_law 285 = .ok (.iconst 5, 1) := by decide +kernel
theorem dL_law_286 : decode cL_law 286 = .ok (.iadd, 1) := by decide +kernel
theorem dL_law_287 : decode cL_law 287 = .ok (.iaload, 1) := by decide +kernel
theorem dL_law_288 : decode cL_law 288 = .ok (.aload_n 0, 1) := by decide +kernel
theorem dL_law_289 : decode cL_law 289 = .ok (.iload_n 3, 1) := by decide +kernel
theorem dL_law_290 : decode cL_law 290 = .ok (.bipush 6, 2) := by decide +kernel
theorem dL_law_292 : decode cL_law 292 = .ok (.iadd, 1) := by decide +kernel
theorem dL_law_293 : decode cL_law 293 = .ok (.iaload, 1) := by decide +kernel
theorem dL_law_294 : decode cL_law 294 = .ok (.invokevirtual 25, 3) := by decide +kernel
theorem dL_law_297 : decode cL_law 297 = .ok (.aload_n 2, 1) := by decide +kernel
theorem dL_law_298 : decode cL_law 298 = .ok (.aload_n 0, 1) := by decide +kernel
theorem dL_law_299 : decode cL_law 299 = .ok (.iload_n 3, 1) := by decide +kernel
theorem dL_law_300 : decode cL_law 300 = .ok (.iconst 1, 1) := by decide +kernel
theorem dL_law_301 : decode cL_law 301 = .ok (.iadd, 1) := by decide +kernel
theorem dL_law_302 : decode cL_law 302 = .ok (.iaload, 1) := by decide +kernel
theorem dL_law_303 : decode cL_law 303 = .ok (.i2l, 1) := by decide +kernel
theorem dL_law_304 : decode cL_law 304 = .ok (.bipush 32, 2) := by decide +kernel
theorem dL_law_306 : decode cL_law 306 = .ok (.lshl, 1) := by decide +kernel
theorem dL_law_307 : decode cL_law 307 = .ok (.aload_n 0, 1) := by decide +kernel
theorem dL_law_308 : decode cL_law 308 = .ok (.iload_n 3, 1) := by decide +kernel
theorem dL_law_309 : decode cL_law 309 = .ok (.iconst 2, 1) := by decide +kernel
theorem dL_law_310 : decode cL_law 310 = .ok (.iadd, 1) := by decide +kernel
theorem dL_law_311 : decode cL_law 311 = .ok (.iaload, 1) := by decide +kernel
theorem dL_law_312 : decode cL_law 312 = .ok (.i2l, 1) := by decide +kernel
theorem dL_law_313 : decode cL_law 313 = .ok (.ldc2_w 23, 3) := by decide +kernel
theorem dL_law_316 : decode cL_law 316 = .ok (.land, 1) := by decide +kernel
theorem dL_law_317 : decode cL_law 317 = .ok (.lor, 1) := by decide +kernel
theorem dL_law_318 : decode cL_law 318 = .ok (.aload_n 0, 1) := by decide +kernel
theorem dL_law_319 : decode cL_law 319 = .ok (.iload_n 3, 1) := by decide +kernel
theorem dL_law_320 : decode cL_law 320 = .ok (.iconst 3, 1) := by decide +kernel
theorem dL_law_321 : decode cL_law 321 = .ok (.iadd, 1) := by decide +kernel
theorem dL_law_322 : decode cL_law 322 = .ok (.iaload, 1) := by decide +kernel
theorem dL_law_323 : decode cL_law 323 = .ok (.aload_n 0, 1) := by decide +kernel
theorem dL_law_324 : decode cL_law 324 = .ok (.iload_n 3, 1) := by decide +kernel
theorem dL_law_325 : decode cL_law 325 = .ok (.iconst 4, 1) := by decide +kernel
theorem dL_law_326 : decode cL_law 326 = .ok (.iadd, 1) := by decide +kernel
theorem dL_law_327 : decode cL_law 327 = .ok (.iaload, 1) := by decide +kernel
theorem dL_law_328 : decode cL_law 328 = .ok (.aload_n 0, 1) := by decide +kernel
theorem dL_law_329 : decode cL_law 329 = .ok (.iload_n 3, 1) := by decide +kernel
theorem dL_law_330 : decode cL_law 330 = .ok (.iconst 5, 1) := by decide +kernel
theorem dL_law_331 : decode cL_law 331 = .ok (.iadd, 1) := by decide +kernel
theorem dL_law_332 : decode cL_law 332 = .ok (.iaload, 1) := by decide +kernel
theorem dL_law_333 : decode cL_law 333 = .ok (.aload_n 0, 1) := by decide +kernel
theorem dL_law_334 : decode cL_law 334 = .ok (.iload_n 3, 1) := by decide +kernel
theorem dL_law_335 : decode cL_law 335 = .ok (.bipush 6, 2) := by decide +kernel
theorem dL_law_337 : decode cL_law 337 = .ok (.iadd, 1) := by decide +kernel
theorem dL_law_338 : decode cL_law 338 = .ok (.iaload, 1) := by decide +kernel
theorem dL_law_339 : decode cL_law 339 = .ok (.invokevirtual 29, 3) := by decide +kernel
theorem dL_law_342 : decode cL_law 342 = .ok (.lcmp, 1) := by decide +kernel
theorem dL_law_343 : decode cL_law 343 = .ok (.ifCond .eq 1194, 3) := by decide +kernel
theorem dL_law_346 : decode cL_law 346 = .ok (.iconst 0, 1) := by decide +kernel
theorem dL_law_347 : decode cL_law 347 = .ok (.ireturn, 1) := by decide +kernel
theorem dL_law_348 : decode cL_law 348 = .ok (.aload_n 1, 1) := by decide +kernel
theorem dL_law_349 : decode cL_law 349 = .ok (.aload_n 0, 1) := by decide +kernel
theorem dL_law_350 : decode cL_law 350 = .ok (.iload_n 3, 1) := by decide +kernel
theorem dL_law_351 : decode cL_law 351 = .ok (.iconst 1, 1) := by decide +kernel
theorem dL_law_352 : decode cL_law 352 = .ok (.iadd, 1) := by decide +kernel
theorem dL_law_353 : decode cL_law 353 = .ok (.iaload, 1) := by decide +kernel
theorem dL_law_354 : decode cL_law 354 = .ok (.i2l, 1) := by decide +kernel
theorem dL_law_355 : decode cL_law 355 = .ok (.bipush 32, 2) := by decide +kernel
theorem dL_law_357 : decode cL_law 357 = .ok (.lshl, 1) := by decide +kernel
theorem dL_law_358 : decode cL_law 358 = .ok (.aload_n 0, 1) := by decide +kernel
theorem dL_law_359 : decode cL_law 359 = .ok (.iload_n 3, 1) := by decide +kernel
theorem dL_law_360 : decode cL_law 360 = .ok (.iconst 2, 1) := by decide +kernel
theorem dL_law_361 : decode cL_law 361 = .ok (.iadd, 1) := by decide +kernel
theorem dL_law_362 : decode cL_law 362 = .ok (.iaload, 1) := by decide +kernel
theorem dL_law_363 : decode cL_law 363 = .ok (.i2l, 1) := by decide +kernel
theorem dL_law_364 : decode cL_law 364 = .ok (.ldc2_w 23, 3) := by decide +kernel
theorem dL_law_367 : decode cL_law 367 = .ok (.land, 1) := by decide +kernel
theorem dL_law_368 : decode cL_law 368 = .ok (.lor, 1) := by decide +kernel
theorem dL_law_369 : decode cL_law 369 = .ok (.aload_n 0, 1) := by decide +kernel
theorem dL_law_370 : decode cL_law 370 = .ok (.iload_n 3, 1) := by decide +kernel
theorem dL_law_371 : decode cL_law 371 = .ok (.iconst 3, 1) := by decide +kernel
theorem dL_law_372 : decode cL_law 372 = .ok (.iadd, 1) := by decide +kernel
theorem dL_law_373 : decode cL_law 373 = .ok (.iaload, 1) := by decide +kernel
theorem dL_law_374 : decode cL_law 374 = .ok (.aload_n 0, 1) := by decide +kernel
theorem dL_law_375 : decode cL_law 375 = .ok (.iload_n 3, 1) := by decide +kernel
theorem dL_law_376 : decode cL_law 376 = .ok (.iconst 4, 1) := by decide +kernel
theorem dL_law_377 : decode cL_law 377 = .ok (.iadd, 1) := by decide +kernel
theorem dL_law_378 : decode cL_law 378 = .ok (.iaload, 1) := by decide +kernel
theorem dL_law_379 : decode cL_law 379 = .ok (.aload_n 0, 1) := by decide +kernel
theorem dL_law_380 : decode cL_law 380 = .ok (.iload_n 3, 1) := by decide +kernel
theorem dL_law_381 : decode cL_law 381 = .ok (.iconst 5, 1) := by decide +kernel
theorem dL_law_382 : decode cL_law 382 = .ok (.iadd, 1) := by decide +kernel
theorem dL_law_383 : decode cL_law 383 = .ok (.iaload, 1) := by decide +kernel
theorem dL_law_384 : decode cL_law 384 = .ok (.invokevirtual 30, 3) := by decide +kernel
theorem dL_law_387 : decode cL_law 387 = .ok (.aload_n 2, 1) := by decide +kernel
theorem dL_law_388 : decode cL_law 388 = .ok (.aload_n 0, 1) := by decide +kernel
theorem dL_law_389 : decode cL_law 389 = .ok (.iload_n 3, 1) := by decide +kernel
theorem dL_law_390 : decode cL_law 390 = .ok (.iconst 1, 1) := by decide +kernel
theorem dL_law_391 : decode cL_law 391 = .ok (.iadd, 1) := by decide +kernel
theorem dL_law_392 : decode cL_law 392 = .ok (.iaload, 1) := by decide +kernel
theorem dL_law_393 : decode cL_law 393 = .ok (.i2l, 1) := by decide +kernel
theorem dL_law_394 : decode cL_law 394 = .ok (.bipush 32, 2) := by decide +kernel
theorem dL_law_396 : decode cL_law 396 = .ok (.lshl, 1) := by decide +kernel
theorem dL_law_397 : decode cL_law 397 = .ok (.aload_n 0, 1) := by decide +kernel
theorem dL_law_398 : decode cL_law 398 = .ok (.iload_n 3, 1) := by decide +kernel
theorem dL_law_399 : decode cL_law 399 = .ok (.iconst 2, 1) := by decide +kernel
theorem dL_law_400 : decode cL_law 400 = .ok (.iadd, 1) := by decide +kernel
theorem dL_law_401 : decode cL_law 401 = .ok (.iaload, 1) := by decide +kernel
theorem dL_law_402 : decode cL_law 402 = .ok (.i2l, 1) := by decide +kernel
theorem dL_law_403 : decode cL_law 403 = .ok (.ldc2_w 23, 3) := by decide +kernel
theorem dL_law_406 : decode cL_law 406 = .ok (.land, 1) := by decide +kernel
theorem dL_law_407 : decode cL_law 407 = .ok (.lor, 1) := by decide +kernel
theorem dL_law_408 : decode cL_law 408 = .ok (.aload_n 0, 1) := by decide +kernel
theorem dL_law_409 : decode cL_law 409 = .ok (.iload_n 3, 1) := by decide +kernel
theorem dL_law_410 : decode cL_law 410 = .ok (.iconst 3, 1) := by decide +kernel
theorem dL_law_411 : decode cL_law 411 = .ok (.iadd, 1) := by decide +kernel
theorem dL_law_412 : decode cL_law 412 = .ok (.iaload, 1) := by decide +kernel
theorem dL_law_413 : decode cL_law 413 = .ok (.aload_n 0, 1) := by decide +kernel
theorem dL_law_414 : decode cL_law 414 = .ok (.iload_n 3, 1) := by decide +kernel
theorem dL_law_415 : decode cL_law 415 = .ok (.iconst 4, 1) := by decide +kernel
theorem dL_law_416 : decode cL_law 416 = .ok (.iadd, 1) := by decide +kernel
theorem dL_law_417 : decode cL_law 417 = .ok (.iaload, 1) := by decide +kernel
theorem dL_law_418 : decode cL_law 418 = .ok (.aload_n 0, 1) := by decide +kernel
theorem dL_law_419 : decode cL_law 419 = .ok (.iload_n 3, 1) := by decide +kernel
theorem dL_law_420 : decode cL_law 420 = .ok (.iconst 5, 1) := by decide +kernel
theorem dL_law_421 : decode cL_law 421 = .ok (.iadd, 1) := by decide +kernel
theorem dL_law_422 : decode cL_law 422 = .ok (.iaload, 1) := by decide +kernel
theorem dL_law_423 : decode cL_law 423 = .ok (.invokevirtual 34, 3) := by decide +kernel
theorem dL_law_426 : decode cL_law 426 = .ok (.if_icmp .eq 1111, 3) := by decide +kernel
theorem dL_law_429 : decode cL_law 429 = .ok (.iconst 0, 1) := by decide +kernel
theorem dL_law_430 : decode cL_law 430 = .ok (.ireturn, 1) := by decide +kernel
theorem dL_law_431 : decode cL_law 431 = .ok (.aload_n 1, 1) := by decide +kernel
theorem dL_law_432 : decode cL_law 432 = .ok (.aload_n 0, 1) := by decide +kernel
theorem dL_law_433 : decode cL_law 433 = .ok (.iload_n 3, 1) := by decide +kernel
theorem dL_law_434 : decode cL_law 434 = .ok (.iconst 1, 1) := by decide +kernel
theorem dL_law_435 : decode cL_law 435 = .ok (.iadd, 1) := by decide +kernel
theorem dL_law_436 : decode cL_law 436 = .ok (.iaload, 1) := by decide +kernel
theorem dL_law_437 : decode cL_law 437 = .ok (.invokevirtual 35, 3) := by decide +kernel
theorem dL_law_440 : decode cL_law 440 = .ok (.aload_n 2, 1) := by decide +kernel
theorem dL_law_441 : decode cL_law 441 = .ok (.aload_n 0, 1) := by decide +kernel
theorem dL_law_442 : decode cL_law 442 = .ok (.iload_n 3, 1) := by decide +kernel
theorem dL_law_443 : decode cL_law 443 = .ok (.iconst 1, 1) := by decide +kernel
theorem dL_law_444 : decode cL_law 444 = .ok (.iadd, 1) := by decide +kernel
theorem dL_law_445 : decode cL_law 445 = .ok (.iaload, 1) := by decide +kernel
theorem dL_law_446 : decode cL_law 446 = .ok (.invokevirtual 39, 3) := by decide +kernel
theorem dL_law_449 : decode cL_law 449 = .ok (.if_icmp .eq 1088, 3) := by decide +kernel
theorem dL_law_452 : decode cL_law 452 = .ok (.iconst 0, 1) := by decide +kernel
theorem dL_law_453 : decode cL_law 453 = .ok (.ireturn, 1) := by decide +kernel
theorem dL_law_454 : decode cL_law 454 = .ok (.aload_n 1, 1) := by decide +kernel
theorem dL_law_455 : decode cL_law 455 = .ok (.aload_n 0, 1) := by decide +kernel
theorem dL_law_456 : decode cL_law 456 = .ok (.iload_n 3, 1) := by decide +kernel
theorem dL_law_457 : decode cL_law 457 = .ok (.iconst 1, 1) := by decide +kernel
theorem dL_law_458 : decode cL_law 458 = .ok (.iadd, 1) := by decide +kernel
theorem dL_law_459 : decode cL_law 459 = .ok (.iaload, 1) := by decide +kernel
theorem dL_law_460 : decode cL_law 460 = .ok (.aload_n 0, 1) := by decide +kernel
theorem dL_law_461 : decode cL_law 461 = .ok (.iload_n 3, 1) := by decide +kernel
theorem dL_law_462 : decode cL_law 462 = .ok (.iconst 2, 1) := by decide +kernel
theorem dL_law_463 : decode cL_law 463 = .ok (.iadd, 1) := by decide +kernel
theorem dL_law_464 : decode cL_law 464 = .ok (.iaload, 1) := by decide +kernel
theorem dL_law_465 : decode cL_law 465 = .ok (.i2l, 1) := by decide +kernel
theorem dL_law_466 : decode cL_law 466 = .ok (.bipush 32, 2) := by decide +kernel
theorem dL_law_468 : decode cL_law 468 = .ok (.lshl, 1) := by decide +kernel
theorem dL_law_469 : decode cL_law 469 = .ok (.aload_n 0, 1) := by decide +kernel
theorem dL_law_470 : decode cL_law 470 = .ok (.iload_n 3, 1) := by decide +kernel
theorem dL_law_471 : decode cL_law 471 = .ok (.iconst 3, 1) := by decide +kernel
theorem dL_law_472 : decode cL_law 472 = .ok (.iadd, 1) := by decide +kernel
theorem dL_law_473 : decode cL_law 473 = .ok (.iaload, 1) := by decide +kernel
theorem dL_law_474 : decode cL_law 474 = .ok (.i2l, 1) := by decide +kernel
theorem dL_law_475 : decode cL_law 475 = .ok (.ldc2_w 23, 3) := by decide +kernel
theorem dL_law_478 : decode cL_law 478 = .ok (.land, 1) := by decide +kernel
theorem dL_law_479 : decode cL_law 479 = .ok (.lor, 1) := by decide +kernel
theorem dL_law_480 : decode cL_law 480 = .ok (.invokevirtual 40, 3) := by decide +kernel
theorem dL_law_483 : decode cL_law 483 = .ok (.aload_n 2, 1) := by decide +kernel
theorem dL_law_484 : decode cL_law 484 = .ok (.aload_n 0, 1) := by decide +kernel
theorem dL_law_485 : decode cL_law 485 = .ok (.iload_n 3, 1) := by decide +kernel
theorem dL_law_486 : decode cL_law 486 = .ok (.iconst 1, 1) := by decide +kernel
theorem dL_law_487 : decode cL_law 487 = .ok (.iadd, 1) := by decide +kernel
theorem dL_law_488 : decode cL_law 488 = .ok (.iaload, 1) := by decide +kernel
theorem dL_law_489 : decode cL_law 489 = .ok (.aload_n 0, 1) := by decide +kernel
theorem dL_law_490 : decode cL_law 490 = .ok (.iload_n 3, 1) := by decide +kernel
theorem dL_law_491 : decode cL_law 491 = .ok (.iconst 2, 1) := by decide +kernel
theorem dL_law_492 : decode cL_law 492 = .ok (.iadd, 1) := by decide +kernel
theorem dL_law_493 : decode cL_law 493 = .ok (.iaload, 1) := by decide +kernel
theorem dL_law_494 : decode cL_law 494 = .ok (.i2l, 1) := by decide +kernel
theorem dL_law_495 : decode cL_law 495 = .ok (.bipush 32, 2) := by decide +kernel
theorem dL_law_497 : decode cL_law 497 = .ok (.lshl, 1) := by decide +kernel
theorem dL_law_498 : decode cL_law 498 = .ok (.aload_n 0, 1) := by decide +kernel
theorem dL_law_499 : decode cL_law 499 = .ok (.iload_n 3, 1) := by decide +kernel
theorem dL_law_500 : decode cL_law 500 = .ok (.iconst 3, 1) := by decide +kernel
theorem dL_law_501 : decode cL_law 501 = .ok (.iadd, 1) := by decide +kernel
theorem dL_law_502 : decode cL_law 502 = .ok (.iaload, 1) := by decide +kernel
theorem dL_law_503 : decode cL_law 503 = .ok (.i2l, 1) := by decide +kernel
theorem dL_law_504 : decode cL_law 504 = .ok (.ldc2_w 23, 3) := by decide +kernel
theorem dL_law_507 : decode cL_law 507 = .ok (.land, 1) := by decide +kernel
theorem dL_law_508 : decode cL_law 508 = .ok (.lor, 1) := by decide +kernel
theorem dL_law_509 : decode cL_law 509 = .ok (.invokevirtual 44, 3) := by decide +kernel
theorem dL_law_512 : decode cL_law 512 = .ok (.lcmp, 1) := by decide +kernel
theorem dL_law_513 : decode cL_law 513 = .ok (.ifCond .eq 1024, 3) := by decide +kernel
theorem dL_law_516 : decode cL_law 516 = .ok (.iconst 0, 1) := by decide +kernel
theorem dL_law_517 : decode cL_law 517 = .ok (.ireturn, 1) := by decide +kernel
theorem dL_law_518 : decode cL_law 518 = .ok (.aload_n 1, 1) := by decide +kernel
theorem dL_law_519 : decode cL_law 519 = .ok (.aload_n 0, 1) := by decide +kernel
theorem dL_law_520 : decode cL_law 520 = .ok (.iload_n 3, 1) := by decide +kernel
theorem dL_law_521 : decode cL_law 521 = .ok (.iconst 1, 1) := by decide +kernel
theorem dL_law_522 : decode cL_law 522 = .ok (.iadd, 1) := by decide +kernel
theorem dL_law_523 : decode cL_law 523 = .ok (.iaload, 1) := by decide +kernel
theorem dL_law_524 : decode cL_law 524 = .ok (.aload_n 0, 1) := by decide +kernel
theorem dL_law_525 : decode cL_law 525 = .ok (.iload_n 3, 1) := by decide +kernel
theorem dL_law_526 : decode cL_law 526 = .ok (.iconst 2, 1) := by decide +kernel
theorem dL_law_527 : decode cL_law 527 = .ok (.iadd, 1) := by decide +kernel
theorem dL_law_528 : decode cL_law 528 = .ok (.iaload, 1) := by decide +kernel
theorem dL_law_529 : decode cL_law 529 = .ok (.invokevirtual 45, 3) := by decide +kernel
theorem dL_law_532 : decode cL_law 532 = .ok (.aload_n 2, 1) := by decide +kernel
theorem dL_law_533 : decode cL_law 533 = .ok (.aload_n 0, 1) := by decide +kernel
theorem dL_law_534 : decode cL_law 534 = .ok (.iload_n 3, 1) := by decide +kernel
theorem dL_law_535 : decode cL_law 535 = .ok (.iconst 1, 1) := by decide +kernel
theorem dL_law_536 : decode cL_law 536 = .ok (.iadd, 1) := by decide +kernel
theorem dL_law_537 : decode cL_law 537 = .ok (.iaload, 1) := by decide +kernel
theorem dL_law_538 : decode cL_law 538 = .ok (.aload_n 0, 1) := by decide +kernel
theorem dL_law_539 : decode cL_law 539 = .ok (.iload_n 3, 1) := by decide +kernel
theorem dL_law_540 : decode cL_law 540 = .ok (.iconst 2, 1) := by decide +kernel
theorem dL_law_541 : decode cL_law 541 = .ok (.iadd, 1) := by decide +kernel
theorem dL_law_542 : decode cL_law 542 = .ok (.iaload, 1) := by decide +kernel
theorem dL_law_543 : decode cL_law 543 = .ok (.invokevirtual 49, 3) := by decide +kernel
theorem dL_law_546 : decode cL_law 546 = .ok (.lcmp, 1) := by decide +kernel
theorem dL_law_547 : decode cL_law 547 = .ok (.ifCond .eq 990, 3) := by decide +kernel
theorem dL_law_550 : decode cL_law 550 = .ok (.iconst 0, 1) := by decide +kernel
theorem dL_law_551 : decode cL_law 551 = .ok (.ireturn, 1) := by decide +kernel
theorem dL_law_552 : decode cL_law 552 = .ok (.aload_n 1, 1) := by decide +kernel
theorem dL_law_553 : decode cL_law 553 = .ok (.aload_n 0, 1) := by decide +kernel
theorem dL_law_554 : decode cL_law 554 = .ok (.iload_n 3, 1) := by decide +kernel
theorem dL_law_555 : decode cL_law 555 = .ok (.iconst 1, 1) := by decide +kernel
theorem dL_law_556 : decode cL_law 556 = .ok (.iadd, 1) := by decide +kernel
theorem dL_law_557 : decode cL_law 557 = .ok (.iaload, 1) := by decide +kernel
theorem dL_law_558 : decode cL_law 558 = .ok (.invokevirtual 50, 3) := by decide +kernel
theorem dL_law_561 : decode cL_law 561 = .ok (.aload_n 2, 1) := by decide +kernel
theorem dL_law_562 : decode cL_law 562 = .ok (.aload_n 0, 1) := by decide +kernel
theorem dL_law_563 : decode cL_law 563 = .ok (.iload_n 3, 1) := by decide +kernel
theorem dL_law_564 : decode cL_law 564 = .ok (.iconst 1, 1) := by decide +kernel
theorem dL_law_565 : decode cL_law 565 = .ok (.iadd, 1) := by decide +kernel
theorem dL_law_566 : decode cL_law 566 = .ok (.iaload, 1) := by decide +kernel
theorem dL_law_567 : decode cL_law 567 = .ok (.invokevirtual 54, 3) := by decide +kernel
theorem dL_law_570 : decode cL_law 570 = .ok (.lcmp, 1) := by decide +kernel
theorem dL_law_571 : decode cL_law 571 = .ok (.ifCond .eq 966, 3) := by decide +kernel
theorem dL_law_574 : decode cL_law 574 = .ok (.iconst 0, 1) := by decide +kernel
theorem dL_law_575 : decode cL_law 575 = .ok (.ireturn, 1) := by decide +kernel
theorem dL_law_576 : decode cL_law 576 = .ok (.aload_n 1, 1) := by decide +kernel
theorem dL_law_577 : decode cL_law 577 = .ok (.aload_n 0, 1) := by decide +kernel
theorem dL_law_578 : decode cL_law 578 = .ok (.iload_n 3, 1) := by decide +kernel
theorem dL_law_579 : decode cL_law 579 = .ok (.iconst 1, 1) := by decide +kernel
theorem dL_law_580 : decode cL_law 580 = .ok (.iadd, 1) := by decide +kernel
theorem dL_law_581 : decode cL_law 581 = .ok (.iaload, 1) := by decide +kernel
theorem dL_law_582 : decode cL_law 582 = .ok (.aload_n 0, 1) := by decide +kernel
theorem dL_law_583 : decode cL_law 583 = .ok (.iload_n 3, 1) := by decide +kernel
theorem dL_law_584 : decode cL_law 584 = .ok (.iconst 2, 1) := by decide +kernel
theorem dL_law_585 : decode cL_law 585 = .ok (.iadd, 1) := by decide +kernel
theorem dL_law_586 : decode cL_law 586 = .ok (.iaload, 1) := by decide +kernel
theorem dL_law_587 : decode cL_law 587 = .ok (.invokevirtual 55, 3) := by decide +kernel
theorem dL_law_590 : decode cL_law 590 = .ok (.aload_n 2, 1) := by decide +kernel
theorem dL_law_591 : decode cL_law 591 = .ok (.aload_n 0, 1) := by decide +kernel
theorem dL_law_592 : decode cL_law 592 = .ok (.iload_n 3, 1) := by decide +kernel
theorem dL_law_593 : decode cL_law 593 = .ok (.iconst 1, 1) := by decide +kernel
theorem dL_law_594 : decode cL_law 594 = .ok (.iadd, 1) := by decide +kernel
theorem dL_law_595 : decode cL_law 595 = .ok (.iaload, 1) := by decide +kernel
theorem dL_law_596 : decode cL_law 596 = .ok (.aload_n 0, 1) := by decide +kernel
theorem dL_law_597 : decode cL_law 597 = .ok (.iload_n 3, 1) := by decide +kernel
theorem dL_law_598 : decode cL_law 598 = .ok (.iconst 2, 1) := by decide +kernel
theorem dL_law_599 : decode cL_law 599 = .ok (.iadd, 1) := by decide +kernel
theorem dL_law_600 : decode cL_law 600 = .ok (.iaload, 1) := by decide +kernel
theorem dL_law_601 : decode cL_law 601 = .ok (.invokevirtual 58, 3) := by decide +kernel
theorem dL_law_604 : decode cL_law 604 = .ok (.if_icmp .eq 933, 3) := by decide +kernel
theorem dL_law_607 : decode cL_law 607 = .ok (.iconst 0, 1) := by decide +kernel
theorem dL_law_608 : decode cL_law 608 = .ok (.ireturn, 1) := by decide +kernel
theorem dL_law_609 : decode cL_law 609 = .ok (.aload_n 1, 1) := by decide +kernel
theorem dL_law_610 : decode cL_law 610 = .ok (.aload_n 0, 1) := by decide +kernel
theorem dL_law_611 : decode cL_law 611 = .ok (.iload_n 3, 1) := by decide +kernel
theorem dL_law_612 : decode cL_law 612 = .ok (.iconst 1, 1) := by decide +kernel
theorem dL_law_613 : decode cL_law 613 = .ok (.iadd, 1) := by decide +kernel
theorem dL_law_614 : decode cL_law 614 = .ok (.iaload, 1) := by decide +kernel
theorem dL_law_615 : decode cL_law 615 = .ok (.aload_n 0, 1) := by decide +kernel
theorem dL_law_616 : decode cL_law 616 = .ok (.iload_n 3, 1) := by decide +kernel
theorem dL_law_617 : decode cL_law 617 = .ok (.iconst 2, 1) := by decide +kernel
theorem dL_law_618 : decode cL_law 618 = .ok (.iadd, 1) := by decide +kernel
theorem dL_law_619 : decode cL_law 619 = .ok (.iaload, 1) := by decide +kernel
theorem dL_law_620 : decode cL_law 620 = .ok (.invokevirtual 59, 3) := by decide +kernel
theorem dL_law_623 : decode cL_law 623 = .ok (.aload_n 2, 1) := by decide +kernel
theorem dL_law_624 : decode cL_law 624 = .ok (.aload_n 0, 1) := by decide +kernel
theorem dL_law_625 : decode cL_law 625 = .ok (.iload_n 3, 1) := by decide +kernel
theorem dL_law_626 : decode cL_law 626 = .ok (.iconst 1, 1) := by decide +kernel
theorem dL_law_627 : decode cL_law 627 = .ok (.iadd, 1) := by decide +kernel
theorem dL_law_628 : decode cL_law 628 = .ok (.iaload, 1) := by decide +kernel
theorem dL_law_629 : decode cL_law 629 = .ok (.aload_n 0, 1) := by decide +kernel
theorem dL_law_630 : decode cL_law 630 = .ok (.iload_n 3, 1) := by decide +kernel
theorem dL_law_631 : decode cL_law 631 = .ok (.iconst 2, 1) := by decide +kernel
theorem dL_law_632 : decode cL_law 632 = .ok (.iadd, 1) := by decide +kernel
theorem dL_law_633 : decode cL_law 633 = .ok (.iaload, 1) := by decide +kernel
theorem dL_law_634 : decode cL_law 634 = .ok (.invokevirtual 62, 3) := by decide +kernel
theorem dL_law_637 : decode cL_law 637 = .ok (.if_icmp .eq 900, 3) := by decide +kernel
theorem dL_law_640 : decode cL_law 640 = .ok (.iconst 0, 1) := by decide +kernel
theorem dL_law_641 : decode cL_law 641 = .ok (.ireturn, 1) := by decide +kernel
theorem dL_law_642 : decode cL_law 642 = .ok (.aload_n 1, 1) := by decide +kernel
theorem dL_law_643 : decode cL_law 643 = .ok (.aload_n 0, 1) := by decide +kernel
theorem dL_law_644 : decode cL_law 644 = .ok (.iload_n 3, 1) := by decide +kernel
theorem dL_law_645 : decode cL_law 645 = .ok (.iconst 1, 1) := by decide +kernel
theorem dL_law_646 : decode cL_law 646 = .ok (.iadd, 1) := by decide +kernel
theorem dL_law_647 : decode cL_law 647 = .ok (.iaload, 1) := by decide +kernel
theorem dL_law_648 : decode cL_law 648 = .ok (.aload_n 0, 1) := by decide +kernel
theorem dL_law_649 : decode cL_law 649 = .ok (.iload_n 3, 1) := by decide +kernel
theorem dL_law_650 : decode cL_law 650 = .ok (.iconst 2, 1) := by decide +kernel
theorem dL_law_651 : decode cL_law 651 = .ok (.iadd, 1) := by decide +kernel
theorem dL_law_652 : decode cL_law 652 = .ok (.iaload, 1) := by decide +kernel
theorem dL_law_653 : decode cL_law 653 = .ok (.invokevirtual 63, 3) := by decide +kernel
theorem dL_law_656 : decode cL_law 656 = .ok (.aload_n 2, 1) := by decide +kernel
theorem dL_law_657 : decode cL_law 657 = .ok (.aload_n 0, 1) := by decide +kernel
theorem dL_law_658 : decode cL_law 658 = .ok (.iload_n 3, 1) := by decide +kernel
theorem dL_law_659 : decode cL_law 659 = .ok (.iconst 1, 1) := by decide +kernel
theorem dL_law_660 : decode cL_law 660 = .ok (.iadd, 1) := by decide +kernel
theorem dL_law_661 : decode cL_law 661 = .ok (.iaload, 1) := by decide +kernel
theorem dL_law_662 : decode cL_law 662 = .ok (.aload_n 0, 1) := by decide +kernel
theorem dL_law_663 : decode cL_law 663 = .ok (.iload_n 3, 1) := by decide +kernel
theorem dL_law_664 : decode cL_law 664 = .ok (.iconst 2, 1) := by decide +kernel
theorem dL_law_665 : decode cL_law 665 = .ok (.iadd, 1) := by decide +kernel
theorem dL_law_666 : decode cL_law 666 = .ok (.iaload, 1) := by decide +kernel
theorem dL_law_667 : decode cL_law 667 = .ok (.invokevirtual 66, 3) := by decide +kernel
theorem dL_law_670 : decode cL_law 670 = .ok (.lcmp, 1) := by decide +kernel
theorem dL_law_671 : decode cL_law 671 = .ok (.ifCond .eq 866, 3) := by decide +kernel
theorem dL_law_674 : decode cL_law 674 = .ok (.iconst 0, 1) := by decide +kernel
theorem dL_law_675 : decode cL_law 675 = .ok (.ireturn, 1) := by decide +kernel
theorem dL_law_676 : decode cL_law 676 = .ok (.aload_n 1, 1) := by decide +kernel
theorem dL_law_677 : decode cL_law 677 = .ok (.aload_n 0, 1) := by decide +kernel
theorem dL_law_678 : decode cL_law 678 = .ok (.iload_n 3, 1) := by decide +kernel
theorem dL_law_679 : decode cL_law 679 = .ok (.iconst 1, 1) := by decide +kernel
theorem dL_law_680 : decode cL_law 680 = .ok (.iadd, 1) := by decide +kernel
theorem dL_law_681 : decode cL_law 681 = .ok (.iaload, 1) := by decide +kernel
theorem dL_law_682 : decode cL_law 682 = .ok (.aload_n 0, 1) := by decide +kernel
theorem dL_law_683 : decode cL_law 683 = .ok (.iload_n 3, 1) := by decide +kernel
theorem dL_law_684 : decode cL_law 684 = .ok (.iconst 2, 1) := by decide +kernel
theorem dL_law_685 : decode cL_law 685 = .ok (.iadd, 1) := by decide +kernel
theorem dL_law_686 : decode cL_law 686 = .ok (.iaload, 1) := by decide +kernel
theorem dL_law_687 : decode cL_law 687 = .ok (.aload_n 0, 1) := by decide +kernel
theorem dL_law_688 : decode cL_law 688 = .ok (.iload_n 3, 1) := by decide +kernel
theorem dL_law_689 : decode cL_law 689 = .ok (.iconst 3, 1) := by decide +kernel
theorem dL_law_690 : decode cL_law 690 = .ok (.iadd, 1) := by decide +kernel
theorem dL_law_691 : decode cL_law 691 = .ok (.iaload, 1) := by decide +kernel
theorem dL_law_692 : decode cL_law 692 = .ok (.invokevirtual 67, 3) := by decide +kernel
theorem dL_law_695 : decode cL_law 695 = .ok (.aload_n 2, 1) := by decide +kernel
theorem dL_law_696 : decode cL_law 696 = .ok (.aload_n 0, 1) := by decide +kernel
theorem dL_law_697 : decode cL_law 697 = .ok (.iload_n 3, 1) := by decide +kernel
theorem dL_law_698 : decode cL_law 698 = .ok (.iconst 1, 1) := by decide +kernel
theorem dL_law_699 : decode cL_law 699 = .ok (.iadd, 1) := by decide +kernel
theorem dL_law_700 : decode cL_law 700 = .ok (.iaload, 1) := by decide +kernel
theorem dL_law_701 : decode cL_law 701 = .ok (.aload_n 0, 1) := by decide +kernel
theorem dL_law_702 : decode cL_law 702 = .ok (.iload_n 3, 1) := by decide +kernel
theorem dL_law_703 : decode cL_law 703 = .ok (.iconst 2, 1) := by decide +kernel
theorem dL_law_704 : decode cL_law 704 = .ok (.iadd, 1) := by decide +kernel
theorem dL_law_705 : decode cL_law 705 = .ok (.iaload, 1) := by decide +kernel
theorem dL_law_706 : decode cL_law 706 = .ok (.aload_n 0, 1) := by decide +kernel
theorem dL_law_707 : decode cL_law 707 = .ok (.iload_n 3, 1) := by decide +kernel
theorem dL_law_708 : decode cL_law 708 = .ok (.iconst 3, 1) := by decide +kernel
theorem dL_law_709 : decode cL_law 709 = .ok (.iadd, 1) := by decide +kernel
theorem dL_law_710 : decode cL_law 710 = .ok (.iaload, 1) := by decide +kernel
theorem dL_law_711 : decode cL_law 711 = .ok (.invokevirtual 71, 3) := by decide +kernel
theorem dL_law_714 : decode cL_law 714 = .ok (.lcmp, 1) := by decide +kernel
theorem dL_law_715 : decode cL_law 715 = .ok (.ifCond .eq 822, 3) := by decide +kernel
theorem dL_law_718 : decode cL_law 718 = .ok (.iconst 0, 1) := by decide +kernel
theorem dL_law_719 : decode cL_law 719 = .ok (.ireturn, 1) := by decide +kernel
theorem dL_law_720 : decode cL_law 720 = .ok (.aload_n 1, 1) := by decide +kernel
theorem dL_law_721 : decode cL_law 721 = .ok (.aload_n 0, 1) := by decide +kernel
theorem dL_law_722 : decode cL_law 722 = .ok (.iload_n 3, 1) := by decide +kernel
theorem dL_law_723 : decode cL_law 723 = .ok (.iconst 1, 1) := by decide +kernel
theorem dL_law_724 : decode cL_law 724 = .ok (.iadd, 1) := by decide +kernel
theorem dL_law_725 : decode cL_law 725 = .ok (.iaload, 1) := by decide +kernel
theorem dL_law_726 : decode cL_law 726 = .ok (.aload_n 0, 1) := by decide +kernel
theorem dL_law_727 : decode cL_law 727 = .ok (.iload_n 3, 1) := by decide +kernel
theorem dL_law_728 : decode cL_law 728 = .ok (.iconst 2, 1) := by decide +kernel
theorem dL_law_729 : decode cL_law 729 = .ok (.iadd, 1) := by decide +kernel
theorem dL_law_730 : decode cL_law 730 = .ok (.iaload, 1) := by decide +kernel
theorem dL_law_731 : decode cL_law 731 = .ok (.aload_n 0, 1) := by decide +kernel
theorem dL_law_732 : decode cL_law 732 = .ok (.iload_n 3, 1) := by decide +kernel
theorem dL_law_733 : decode cL_law 733 = .ok (.iconst 3, 1) := by decide +kernel
theorem dL_law_734 : decode cL_law 734 = .ok (.iadd, 1) := by decide +kernel
theorem dL_law_735 : decode cL_law 735 = .ok (.iaload, 1) := by decide +kernel
theorem dL_law_736 : decode cL_law 736 = .ok (.invokevirtual 72, 3) := by decide +kernel
theorem dL_law_739 : decode cL_law 739 = .ok (.aload_n 2, 1) := by decide +kernel
theorem dL_law_740 : decode cL_law 740 = .ok (.aload_n 0, 1) := by decide +kernel
theorem dL_law_741 : decode cL_law 741 = .ok (.iload_n 3, 1) := by decide +kernel
theorem dL_law_742 : decode cL_law 742 = .ok (.iconst 1, 1) := by decide +kernel
theorem dL_law_743 : decode cL_law 743 = .ok (.iadd, 1) := by decide +kernel
theorem dL_law_744 : decode cL_law 744 = .ok (.iaload, 1) := by decide +kernel
theorem dL_law_745 : decode cL_law 745 = .ok (.aload_n 0, 1) := by decide +kernel
theorem dL_law_746 : decode cL_law 746 = .ok (.iload_n 3, 1) := by decide +kernel
theorem dL_law_747 : decode cL_law 747 = .ok (.iconst 2, 1) := by decide +kernel
theorem dL_law_748 : decode cL_law 748 = .ok (.iadd, 1) := by decide +kernel
theorem dL_law_749 : decode cL_law 749 = .ok (.iaload, 1) := by decide +kernel
theorem dL_law_750 : decode cL_law 750 = .ok (.aload_n 0, 1) := by decide +kernel
theorem dL_law_751 : decode cL_law 751 = .ok (.iload_n 3, 1) := by decide +kernel
theorem dL_law_752 : decode cL_law 752 = .ok (.iconst 3, 1) := by decide +kernel
theorem dL_law_753 : decode cL_law 753 = .ok (.iadd, 1) := by decide +kernel
theorem dL_law_754 : decode cL_law 754 = .ok (.iaload, 1) := by decide +kernel
theorem dL_law_755 : decode cL_law 755 = .ok (.invokevirtual 75, 3) := by decide +kernel
theorem dL_law_758 : decode cL_law 758 = .ok (.lcmp, 1) := by decide +kernel
theorem dL_law_759 : decode cL_law 759 = .ok (.ifCond .eq 778, 3) := by decide +kernel
theorem dL_law_762 : decode cL_law 762 = .ok (.iconst 0, 1) := by decide +kernel
theorem dL_law_763 : decode cL_law 763 = .ok (.ireturn, 1) := by decide +kernel
theorem dL_law_764 : decode cL_law 764 = .ok (.aload_n 1, 1) := by decide +kernel
theorem dL_law_765 : decode cL_law 765 = .ok (.aload_n 0, 1) := by decide +kernel
theorem dL_law_766 : decode cL_law 766 = .ok (.iload_n 3, 1) := by decide +kernel
theorem dL_law_767 : decode cL_law 767 = .ok (.iconst 1, 1) := by decide +kernel
theorem dL_law_768 : decode cL_law 768 = .ok (.iadd, 1) := by decide +kernel
theorem dL_law_769 : decode cL_law 769 = .ok (.iaload, 1) := by decide +kernel
theorem dL_law_770 : decode cL_law 770 = .ok (.aload_n 0, 1) := by decide +kernel
theorem dL_law_771 : decode cL_law 771 = .ok (.iload_n 3, 1) := by decide +kernel
theorem dL_law_772 : decode cL_law 772 = .ok (.iconst 2, 1) := by decide +kernel
theorem dL_law_773 : decode cL_law 773 = .ok (.iadd, 1) := by decide +kernel
theorem dL_law_774 : decode cL_law 774 = .ok (.iaload, 1) := by decide +kernel
theorem dL_law_775 : decode cL_law 775 = .ok (.invokevirtual 76, 3) := by decide +kernel
theorem dL_law_778 : decode cL_law 778 = .ok (.aload_n 2, 1) := by decide +kernel
theorem dL_law_779 : decode cL_law 779 = .ok (.aload_n 0, 1) := by decide +kernel
theorem dL_law_780 : decode cL_law 780 = .ok (.iload_n 3, 1) := by decide +kernel
theorem dL_law_781 : decode cL_law 781 = .ok (.iconst 1, 1) := by decide +kernel
theorem dL_law_782 : decode cL_law 782 = .ok (.iadd, 1) := by decide +kernel
theorem dL_law_783 : decode cL_law 783 = .ok (.iaload, 1) := by decide +kernel
theorem dL_law_784 : decode cL_law 784 = .ok (.aload_n 0, 1) := by decide +kernel
theorem dL_law_785 : decode cL_law 785 = .ok (.iload_n 3, 1) := by decide +kernel
theorem dL_law_786 : decode cL_law 786 = .ok (.iconst 2, 1) := by decide +kernel
theorem dL_law_787 : decode cL_law 787 = .ok (.iadd, 1) := by decide +kernel
theorem dL_law_788 : decode cL_law 788 = .ok (.iaload, 1) := by decide +kernel
theorem dL_law_789 : decode cL_law 789 = .ok (.invokevirtual 79, 3) := by decide +kernel
theorem dL_law_792 : decode cL_law 792 = .ok (.lcmp, 1) := by decide +kernel
theorem dL_law_793 : decode cL_law 793 = .ok (.ifCond .eq 744, 3) := by decide +kernel
theorem dL_law_796 : decode cL_law 796 = .ok (.iconst 0, 1) := by decide +kernel
theorem dL_law_797 : decode cL_law 797 = .ok (.ireturn, 1) := by decide +kernel
theorem dL_law_798 : decode cL_law 798 = .ok (.aload_n 1, 1) := by decide +kernel
theorem dL_law_799 : decode cL_law 799 = .ok (.aload_n 0, 1) := by decide +kernel
theorem dL_law_800 : decode cL_law 800 = .ok (.iload_n 3, 1) := by decide +kernel
theorem dL_law_801 : decode cL_law 801 = .ok (.iconst 1, 1) := by decide +kernel
theorem dL_law_802 : decode cL_law 802 = .ok (.iadd, 1) := by decide +kernel
theorem dL_law_803 : decode cL_law 803 = .ok (.iaload, 1) := by decide +kernel
theorem dL_law_804 : decode cL_law 804 = .ok (.aload_n 0, 1) := by decide +kernel
theorem dL_law_805 : decode cL_law 805 = .ok (.iload_n 3, 1) := by decide +kernel
theorem dL_law_806 : decode cL_law 806 = .ok (.iconst 2, 1) := by decide +kernel
theorem dL_law_807 : decode cL_law 807 = .ok (.iadd, 1) := by decide +kernel
theorem dL_law_808 : decode cL_law 808 = .ok (.iaload, 1) := by decide +kernel
theorem dL_law_809 : decode cL_law 809 = .ok (.i2l, 1) := by decide +kernel
theorem dL_law_810 : decode cL_law 810 = .ok (.bipush 32, 2) := by decide +kernel
theorem dL_law_812 : decode cL_law 812 = .ok (.lshl, 1) := by decide +kernel
theorem dL_law_813 : decode cL_law 813 = .ok (.aload_n 0, 1) := by decide +kernel
theorem dL_law_814 : decode cL_law 814 = .ok (.iload_n 3, 1) := by decide +kernel
theorem dL_law_815 : decode cL_law 815 = .ok (.iconst 3, 1) := by decide +kernel
theorem dL_law_816 : decode cL_law 816 = .ok (.iadd, 1) := by decide +kernel
theorem dL_law_817 : decode cL_law 817 = .ok (.iaload, 1) := by decide +kernel
theorem dL_law_818 : decode cL_law 818 = .ok (.i2l, 1) := by decide +kernel
theorem dL_law_819 : decode cL_law 819 = .ok (.ldc2_w 23, 3) := by decide +kernel
theorem dL_law_822 : decode cL_law 822 = .ok (.land, 1) := by decide +kernel
theorem dL_law_823 : decode cL_law 823 = .ok (.lor, 1) := by decide +kernel
theorem dL_law_824 : decode cL_law 824 = .ok (.invokevirtual 80, 3) := by decide +kernel
theorem dL_law_827 : decode cL_law 827 = .ok (.aload_n 2, 1) := by decide +kernel
theorem dL_law_828 : decode cL_law 828 = .ok (.aload_n 0, 1) := by decide +kernel
theorem dL_law_829 : decode cL_law 829 = .ok (.iload_n 3, 1) := by decide +kernel
theorem dL_law_830 : decode cL_law 830 = .ok (.iconst 1, 1) := by decide +kernel
theorem dL_law_831 : decode cL_law 831 = .ok (.iadd, 1) := by decide +kernel
theorem dL_law_832 : decode cL_law 832 = .ok (.iaload, 1) := by decide +kernel
theorem dL_law_833 : decode cL_law 833 = .ok (.aload_n 0, 1) := by decide +kernel
theorem dL_law_834 : decode cL_law 834 = .ok (.iload_n 3, 1) := by decide +kernel
theorem dL_law_835 : decode cL_law 835 = .ok (.iconst 2, 1) := by decide +kernel
theorem dL_law_836 : decode cL_law 836 = .ok (.iadd, 1) := by decide +kernel
theorem dL_law_837 : decode cL_law 837 = .ok (.iaload, 1) := by decide +kernel
theorem dL_law_838 : decode cL_law 838 = .ok (.i2l, 1) := by decide +kernel
theorem dL_law_839 : decode cL_law 839 = .ok (.bipush 32, 2) := by decide +kernel
theorem dL_law_841 : decode cL_law 841 = .ok (.lshl, 1) := by decide +kernel
theorem dL_law_842 : decode cL_law 842 = .ok (.aload_n 0, 1) := by decide +kernel
theorem dL_law_843 : decode cL_law 843 = .ok (.iload_n 3, 1) := by decide +kernel
theorem dL_law_844 : decode cL_law 844 = .ok (.iconst 3, 1) := by decide +kernel
theorem dL_law_845 : decode cL_law 845 = .ok (.iadd, 1) := by decide +kernel
theorem dL_law_846 : decode cL_law 846 = .ok (.iaload, 1) := by decide +kernel
theorem dL_law_847 : decode cL_law 847 = .ok (.i2l, 1) := by decide +kernel
theorem dL_law_848 : decode cL_law 848 = .ok (.ldc2_w 23, 3) := by decide +kernel
theorem dL_law_851 : decode cL_law 851 = .ok (.land, 1) := by decide +kernel
theorem dL_law_852 : decode cL_law 852 = .ok (.lor, 1) := by decide +kernel
theorem dL_law_853 : decode cL_law 853 = .ok (.invokevirtual 83, 3) := by decide +kernel
theorem dL_law_856 : decode cL_law 856 = .ok (.lcmp, 1) := by decide +kernel
theorem dL_law_857 : decode cL_law 857 = .ok (.ifCond .eq 680, 3) := by decide +kernel
theorem dL_law_860 : decode cL_law 860 = .ok (.iconst 0, 1) := by decide +kernel
theorem dL_law_861 : decode cL_law 861 = .ok (.ireturn, 1) := by decide +kernel
theorem dL_law_862 : decode cL_law 862 = .ok (.aload_n 1, 1) := by decide +kernel
theorem dL_law_863 : decode cL_law 863 = .ok (.aload_n 0, 1) := by decide +kernel
theorem dL_law_864 : decode cL_law 864 = .ok (.iload_n 3, 1) := by decide +kernel
theorem dL_law_865 : decode cL_law 865 = .ok (.iconst 1, 1) := by decide +kernel
theorem dL_law_866 : decode cL_law 866 = .ok (.iadd, 1) := by decide +kernel
theorem dL_law_867 : decode cL_law 867 = .ok (.iaload, 1) := by decide +kernel
theorem dL_law_868 : decode cL_law 868 = .ok (.aload_n 0, 1) := by decide +kernel
theorem dL_law_869 : decode cL_law 869 = .ok (.iload_n 3, 1) := by decide +kernel
theorem dL_law_870 : decode cL_law 870 = .ok (.iconst 2, 1) := by decide +kernel
theorem dL_law_871 : decode cL_law 871 = .ok (.iadd, 1) := by decide +kernel
theorem dL_law_872 : decode cL_law 872 = .ok (.iaload, 1) := by decide +kernel
theorem dL_law_873 : decode cL_law 873 = .ok (.i2l, 1) := by decide +kernel
theorem dL_law_874 : decode cL_law 874 = .ok (.bipush 32, 2) := by decide +kernel
theorem dL_law_876 : decode cL_law 876 = .ok (.lshl, 1) := by decide +kernel
theorem dL_law_877 : decode cL_law 877 = .ok (.aload_n 0, 1) := by decide +kernel
theorem dL_law_878 : decode cL_law 878 = .ok (.iload_n 3, 1) := by decide +kernel
theorem dL_law_879 : decode cL_law 879 = .ok (.iconst 3, 1) := by decide +kernel
theorem dL_law_880 : decode cL_law 880 = .ok (.iadd, 1) := by decide +kernel
theorem dL_law_881 : decode cL_law 881 = .ok (.iaload, 1) := by decide +kernel
theorem dL_law_882 : decode cL_law 882 = .ok (.i2l, 1) := by decide +kernel
theorem dL_law_883 : decode cL_law 883 = .ok (.ldc2_w 23, 3) := by decide +kernel
theorem dL_law_886 : decode cL_law 886 = .ok (.land, 1) := by decide +kernel
theorem dL_law_887 : decode cL_law 887 = .ok (.lor, 1) := by decide +kernel
theorem dL_law_888 : decode cL_law 888 = .ok (.invokevirtual 84, 3) := by decide +kernel
theorem dL_law_891 : decode cL_law 891 = .ok (.aload_n 2, 1) := by decide +kernel
theorem dL_law_892 : decode cL_law 892 = .ok (.aload_n 0, 1) := by decide +kernel
theorem dL_law_893 : decode cL_law 893 = .ok (.iload_n 3, 1) := by decide +kernel
theorem dL_law_894 : decode cL_law 894 = .ok (.iconst 1, 1) := by decide +kernel
theorem dL_law_895 : decode cL_law 895 = .ok (.iadd, 1) := by decide +kernel
theorem dL_law_896 : decode cL_law 896 = .ok (.iaload, 1) := by decide +kernel
theorem dL_law_897 : decode cL_law 897 = .ok (.aload_n 0, 1) := by decide +kernel
theorem dL_law_898 : decode cL_law 898 = .ok (.iload_n 3, 1) := by decide +kernel
theorem dL_law_899 : decode cL_law 899 = .ok (.iconst 2, 1) := by decide +kernel
theorem dL_law_900 : decode cL_law 900 = .ok (.iadd, 1) := by decide +kernel
theorem dL_law_901 : decode cL_law 901 = .ok (.iaload, 1) := by decide +kernel
theorem dL_law_902 : decode cL_law 902 = .ok (.i2l, 1) := by decide +kernel
theorem dL_law_903 : decode cL_law 903 = .ok (.bipush 32, 2) := by decide +kernel
theorem dL_law_905 : decode cL_law 905 = .ok (.lshl, 1) := by decide +kernel
theorem dL_law_906 : decode cL_law 906 = .ok (.aload_n 0, 1) := by decide +kernel
theorem dL_law_907 : decode cL_law 907 = .ok (.iload_n 3, 1) := by decide +kernel
theorem dL_law_908 : decode cL_law 908 = .ok (.iconst 3, 1) := by decide +kernel
theorem dL_law_909 : decode cL_law 909 = .ok (.iadd, 1) := by decide +kernel
theorem dL_law_910 : decode cL_law 910 = .ok (.iaload, 1) := by decide +kernel
theorem dL_law_911 : decode cL_law 911 = .ok (.i2l, 1) := by decide +kernel
theorem dL_law_912 : decode cL_law 912 = .ok (.ldc2_w 23, 3) := by decide +kernel
theorem dL_law_915 : decode cL_law 915 = .ok (.land, 1) := by decide +kernel
theorem dL_law_916 : decode cL_law 916 = .ok (.lor, 1) := by decide +kernel
theorem dL_law_917 : decode cL_law 917 = .ok (.invokevirtual 87, 3) := by decide +kernel
theorem dL_law_920 : decode cL_law 920 = .ok (.lcmp, 1) := by decide +kernel
theorem dL_law_921 : decode cL_law 921 = .ok (.ifCond .eq 616, 3) := by decide +kernel
theorem dL_law_924 : decode cL_law 924 = .ok (.iconst 0, 1) := by decide +kernel
theorem dL_law_925 : decode cL_law 925 = .ok (.ireturn, 1) := by decide +kernel
theorem dL_law_926 : decode cL_law 926 = .ok (.aload_n 1, 1) := by decide +kernel
theorem dL_law_927 : decode cL_law 927 = .ok (.aload_n 0, 1) := by decide +kernel
theorem dL_law_928 : decode cL_law 928 = .ok (.iload_n 3, 1) := by decide +kernel
theorem dL_law_929 : decode cL_law 929 = .ok (.iconst 1, 1) := by decide +kernel
theorem dL_law_930 : decode cL_law 930 = .ok (.iadd, 1) := by decide +kernel
theorem dL_law_931 : decode cL_law 931 = .ok (.iaload, 1) := by decide +kernel
theorem dL_law_932 : decode cL_law 932 = .ok (.aload_n 0, 1) := by decide +kernel
theorem dL_law_933 : decode cL_law 933 = .ok (.iload_n 3, 1) := by decide +kernel
theorem dL_law_934 : decode cL_law 934 = .ok (.iconst 2, 1) := by decide +kernel
theorem dL_law_935 : decode cL_law 935 = .ok (.iadd, 1) := by decide +kernel
theorem dL_law_936 : decode cL_law 936 = .ok (.iaload, 1) := by decide +kernel
theorem dL_law_937 : decode cL_law 937 = .ok (.i2l, 1) := by decide +kernel
theorem dL_law_938 : decode cL_law 938 = .ok (.bipush 32, 2) := by decide +kernel
theorem dL_law_940 : decode cL_law 940 = .ok (.lshl, 1) := by decide +kernel
theorem dL_law_941 : decode cL_law 941 = .ok (.aload_n 0, 1) := by decide +kernel
theorem dL_law_942 : decode cL_law 942 = .ok (.iload_n 3, 1) := by decide +kernel
theorem dL_law_943 : decode cL_law 943 = .ok (.iconst 3, 1) := by decide +kernel
theorem dL_law_944 : decode cL_law 944 = .ok (.iadd, 1) := by decide +kernel
theorem dL_law_945 : decode cL_law 945 = .ok (.iaload, 1) := by decide +kernel
theorem dL_law_946 : decode cL_law 946 = .ok (.i2l, 1) := by decide +kernel
theorem dL_law_947 : decode cL_law 947 = .ok (.ldc2_w 23, 3) := by decide +kernel
theorem dL_law_950 : decode cL_law 950 = .ok (.land, 1) := by decide +kernel
theorem dL_law_951 : decode cL_law 951 = .ok (.lor, 1) := by decide +kernel
theorem dL_law_952 : decode cL_law 952 = .ok (.invokevirtual 88, 3) := by decide +kernel
theorem dL_law_955 : decode cL_law 955 = .ok (.aload_n 2, 1) := by decide +kernel
theorem dL_law_956 : decode cL_law 956 = .ok (.aload_n 0, 1) := by decide +kernel
theorem dL_law_957 : decode cL_law 957 = .ok (.iload_n 3, 1) := by decide +kernel
theorem dL_law_958 : decode cL_law 958 = .ok (.iconst 1, 1) := by decide +kernel
theorem dL_law_959 : decode cL_law 959 = .ok (.iadd, 1) := by decide +kernel
theorem dL_law_960 : decode cL_law 960 = .ok (.iaload, 1) := by decide +kernel
theorem dL_law_961 : decode cL_law 961 = .ok (.aload_n 0, 1) := by decide +kernel
theorem dL_law_962 : decode cL_law 962 = .ok (.iload_n 3, 1) := by decide +kernel
theorem dL_law_963 : decode cL_law 963 = .ok (.iconst 2, 1) := by decide +kernel
theorem dL_law_964 : decode cL_law 964 = .ok (.iadd, 1) := by decide +kernel
theorem dL_law_965 : decode cL_law 965 = .ok (.iaload, 1) := by decide +kernel
theorem dL_law_966 : decode cL_law 966 = .ok (.i2l, 1) := by decide +kernel
theorem dL_law_967 : decode cL_law 967 = .ok (.bipush 32, 2) := by decide +kernel
theorem dL_law_969 : decode cL_law 969 = .ok (.lshl, 1) := by decide +kernel
theorem dL_law_970 : decode cL_law 970 = .ok (.aload_n 0, 1) := by decide +kernel
theorem dL_law_971 : decode cL_law 971 = .ok (.iload_n 3, 1) := by decide +kernel
theorem dL_law_972 : decode cL_law 972 = .ok (.iconst 3, 1) := by decide +kernel
theorem dL_law_973 : decode cL_law 973 = .ok (.iadd, 1) := by decide +kernel
theorem dL_law_974 : decode cL_law 974 = .ok (.iaload, 1) := by decide +kernel
theorem dL_law_975 : decode cL_law 975 = .ok (.i2l, 1) := by decide +kernel
theorem dL_law_976 : decode cL_law 976 = .ok (.ldc2_w 23, 3) := by decide +kernel
theorem dL_law_979 : decode cL_law 979 = .ok (.land, 1) := by decide +kernel
theorem dL_law_980 : decode cL_law 980 = .ok (.lor, 1) := by decide +kernel
theorem dL_law_981 : decode cL_law 981 = .ok (.invokevirtual 92, 3) := by decide +kernel
theorem dL_law_984 : decode cL_law 984 = .ok (.if_icmp .eq 553, 3) := by decide +kernel
theorem dL_law_987 : decode cL_law 987 = .ok (.iconst 0, 1) := by decide +kernel
theorem dL_law_988 : decode cL_law 988 = .ok (.ireturn, 1) := by decide +kernel
theorem dL_law_989 : decode cL_law 989 = .ok (.aload_n 1, 1) := by decide +kernel
theorem dL_law_990 : decode cL_law 990 = .ok (.aload_n 0, 1) := by decide +kernel
theorem dL_law_991 : decode cL_law 991 = .ok (.iload_n 3, 1) := by decide +kernel
theorem dL_law_992 : decode cL_law 992 = .ok (.iconst 1, 1) := by decide +kernel
theorem dL_law_993 : decode cL_law 993 = .ok (.iadd, 1) := by decide +kernel
theorem dL_law_994 : decode cL_law 994 = .ok (.iaload, 1) := by decide +kernel
theorem dL_law_995 : decode cL_law 995 = .ok (.aload_n 0, 1) := by decide +kernel
theorem dL_law_996 : decode cL_law 996 = .ok (.iload_n 3, 1) := by decide +kernel
theorem dL_law_997 : decode cL_law 997 = .ok (.iconst 2, 1) := by decide +kernel
theorem dL_law_998 : decode cL_law 998 = .ok (.iadd, 1) := by decide +kernel
theorem dL_law_999 : decode cL_law 999 = .ok (.iaload, 1) := by decide +kernel
theorem dL_law_1000 : decode cL_law 1000 = .ok (.i2l, 1) := by decide +kernel
theorem dL_law_1001 : decode cL_law 1001 = .ok (.bipush 32, 2) := by decide +kernel
theorem dL_law_1003 : decode cL_law 1003 = .ok (.lshl, 1) := by decide +kernel
theorem dL_law_1004 : decode cL_law 1004 = .ok (.aload_n 0, 1) := by decide +kernel
theorem dL_law_1005 : decode cL_law 1005 = .ok (.iload_n 3, 1) := by decide +kernel
theorem dL_law_1006 : decode cL_law 1006 = .ok (.iconst 3, 1) := by decide +kernel
theorem dL_law_1007 : decode cL_law 1007 = .ok (.iadd, 1) := by decide +kernel
theorem dL_law_1008 : decode cL_law 1008 = .ok (.iaload, 1) := by decide +kernel
theorem dL_law_1009 : decode cL_law 1009 = .ok (.i2l, 1) := by decide +kernel
theorem dL_law_1010 : decode cL_law 1010 = .ok (.ldc2_w 23, 3) := by decide +kernel
theorem dL_law_1013 : decode cL_law 1013 = .ok (.land, 1) := by decide +kernel
theorem dL_law_1014 : decode cL_law 1014 = .ok (.lor, 1) := by decide +kernel
theorem dL_law_1015 : decode cL_law 1015 = .ok (.invokevirtual 93, 3) := by decide +kernel
theorem dL_law_1018 : decode cL_law 1018 = .ok (.aload_n 2, 1) := by decide +kernel
theorem dL_law_1019 : decode cL_law 1019 = .ok (.aload_n 0, 1) := by decide +kernel
theorem dL_law_1020 : decode cL_law 1020 = .ok (.iload_n 3, 1) := by decide +kernel
theorem dL_law_1021 : decode cL_law 1021 = .ok (.iconst 1, 1) := by decide +kernel
theorem dL_law_1022 : decode cL_law 1022 = .ok (.iadd, 1) := by decide +kernel
theorem dL_law_1023 : decode cL_law 1023 = .ok (.iaload, 1) := by decide +kernel
theorem dL_law_1024 : decode cL_law 1024 = .ok (.aload_n 0, 1) := by decide +kernel
theorem dL_law_1025 : decode cL_law 1025 = .ok (.iload_n 3, 1) := by decide +kernel
theorem dL_law_1026 : decode cL_law 1026 = .ok (.iconst 2, 1) := by decide +kernel
theorem dL_law_1027 : decode cL_law 1027 = .ok (.iadd, 1) := by decide +kernel
theorem dL_law_1028 : decode cL_law 1028 = .ok (.iaload, 1) := by decide +kernel
theorem dL_law_1029 : decode cL_law 1029 = .ok (.i2l, 1) := by decide +kernel
theorem dL_law_1030 : decode cL_law 1030 = .ok (.bipush 32, 2) := by decide +kernel
theorem dL_law_1032 : decode cL_law 1032 = .ok (.lshl, 1) := by decide +kernel
theorem dL_law_1033 : decode cL_law 1033 = .ok (.aload_n 0, 1) := by decide +kernel
theorem dL_law_1034 : decode cL_law 1034 = .ok (.iload_n 3, 1) := by decide +kernel
theorem dL_law_1035 : decode cL_law 1035 = .ok (.iconst 3, 1) := by decide +kernel
theorem dL_law_1036 : decode cL_law 1036 = .ok (.iadd, 1) := by decide +kernel
theorem dL_law_1037 : decode cL_law 1037 = .ok (.iaload, 1) := by decide +kernel
theorem dL_law_1038 : decode cL_law 1038 = .ok (.i2l, 1) := by decide +kernel
theorem dL_law_1039 : decode cL_law 1039 = .ok (.ldc2_w 23, 3) := by decide +kernel
theorem dL_law_1042 : decode cL_law 1042 = .ok (.land, 1) := by decide +kernel
theorem dL_law_1043 : decode cL_law 1043 = .ok (.lor, 1) := by decide +kernel
theorem dL_law_1044 : decode cL_law 1044 = .ok (.invokevirtual 96, 3) := by decide +kernel
theorem dL_law_1047 : decode cL_law 1047 = .ok (.lcmp, 1) := by decide +kernel
theorem dL_law_1048 : decode cL_law 1048 = .ok (.ifCond .eq 489, 3) := by decide +kernel
theorem dL_law_1051 : decode cL_law 1051 = .ok (.iconst 0, 1) := by decide +kernel
theorem dL_law_1052 : decode cL_law 1052 = .ok (.ireturn, 1) := by decide +kernel
theorem dL_law_1053 : decode cL_law 1053 = .ok (.aload_n 1, 1) := by decide +kernel
theorem dL_law_1054 : decode cL_law 1054 = .ok (.aload_n 0, 1) := by decide +kernel
theorem dL_law_1055 : decode cL_law 1055 = .ok (.iload_n 3, 1) := by decide +kernel
theorem dL_law_1056 : decode cL_law 1056 = .ok (.iconst 1, 1) := by decide +kernel
theorem dL_law_1057 : decode cL_law 1057 = .ok (.iadd, 1) := by decide +kernel
theorem dL_law_1058 : decode cL_law 1058 = .ok (.iaload, 1) := by decide +kernel
theorem dL_law_1059 : decode cL_law 1059 = .ok (.invokevirtual 97, 3) := by decide +kernel
theorem dL_law_1062 : decode cL_law 1062 = .ok (.aload_n 2, 1) := by decide +kernel
theorem dL_law_1063 : decode cL_law 1063 = .ok (.aload_n 0, 1) := by decide +kernel
theorem dL_law_1064 : decode cL_law 1064 = .ok (.iload_n 3, 1) := by decide +kernel
theorem dL_law_1065 : decode cL_law 1065 = .ok (.iconst 1, 1) := by decide +kernel
theorem dL_law_1066 : decode cL_law 1066 = .ok (.iadd, 1) := by decide +kernel
theorem dL_law_1067 : decode cL_law 1067 = .ok (.iaload, 1) := by decide +kernel
theorem dL_law_1068 : decode cL_law 1068 = .ok (.invokevirtual 100, 3) := by decide +kernel
theorem dL_law_1071 : decode cL_law 1071 = .ok (.if_icmp .eq 466, 3) := by decide +kernel
theorem dL_law_1074 : decode cL_law 1074 = .ok (.iconst 0, 1) := by decide +kernel
theorem dL_law_1075 : decode cL_law 1075 = .ok (.ireturn, 1) := by decide +kernel
theorem dL_law_1076 : decode cL_law 1076 = .ok (.aload_n 1, 1) := by decide +kernel
theorem dL_law_1077 : decode cL_law 1077 = .ok (.aload_n 0, 1) := by decide +kernel
theorem dL_law_1078 : decode cL_law 1078 = .ok (.iload_n 3, 1) := by decide +kernel
theorem dL_law_1079 : decode cL_law 1079 = .ok (.iconst 1, 1) := by decide +kernel
theorem dL_law_1080 : decode cL_law 1080 = .ok (.iadd, 1) := by decide +kernel
theorem dL_law_1081 : decode cL_law 1081 = .ok (.iaload, 1) := by decide +kernel
theorem dL_law_1082 : decode cL_law 1082 = .ok (.invokevirtual 101, 3) := by decide +kernel
theorem dL_law_1085 : decode cL_law 1085 = .ok (.aload_n 2, 1) := by decide +kernel
theorem dL_law_1086 : decode cL_law 1086 = .ok (.aload_n 0, 1) := by decide +kernel
theorem dL_law_1087 : decode cL_law 1087 = .ok (.iload_n 3, 1) := by decide +kernel
theorem dL_law_1088 : decode cL_law 1088 = .ok (.iconst 1, 1) := by decide +kernel
theorem dL_law_1089 : decode cL_law 1089 = .ok (.iadd, 1) := by decide +kernel
theorem dL_law_1090 : decode cL_law 1090 = .ok (.iaload, 1) := by decide +kernel
theorem dL_law_1091 : decode cL_law 1091 = .ok (.invokevirtual 104, 3) := by decide +kernel
theorem dL_law_1094 : decode cL_law 1094 = .ok (.if_icmp .eq 443, 3) := by decide +kernel
theorem dL_law_1097 : decode cL_law 1097 = .ok (.iconst 0, 1) := by decide +kernel
theorem dL_law_1098 : decode cL_law 1098 = .ok (.ireturn, 1) := by decide +kernel
theorem dL_law_1099 : decode cL_law 1099 = .ok (.aload_n 1, 1) := by decide +kernel
theorem dL_law_1100 : decode cL_law 1100 = .ok (.aload_n 0, 1) := by decide +kernel
theorem dL_law_1101 : decode cL_law 1101 = .ok (.iload_n 3, 1) := by decide +kernel
theorem dL_law_1102 : decode cL_law 1102 = .ok (.iconst 1, 1) := by decide +kernel
theorem dL_law_1103 : decode cL_law 1103 = .ok (.iadd, 1) := by decide +kernel
theorem dL_law_1104 : decode cL_law 1104 = .ok (.iaload, 1) := by decide +kernel
theorem dL_law_1105 : decode cL_law 1105 = .ok (.aload_n 0, 1) := by decide +kernel
theorem dL_law_1106 : decode cL_law 1106 = .ok (.iload_n 3, 1) := by decide +kernel
theorem dL_law_1107 : decode cL_law 1107 = .ok (.iconst 2, 1) := by decide +kernel
theorem dL_law_1108 : decode cL_law 1108 = .ok (.iadd, 1) := by decide +kernel
theorem dL_law_1109 : decode cL_law 1109 = .ok (.iaload, 1) := by decide +kernel
theorem dL_law_1110 : decode cL_law 1110 = .ok (.i2l, 1) := by decide +kernel
theorem dL_law_1111 : decode cL_law 1111 = .ok (.bipush 32, 2) := by decide +kernel
theorem dL_law_1113 : decode cL_law 1113 = .ok (.lshl, 1) := by decide +kernel
theorem dL_law_1114 : decode cL_law 1114 = .ok (.aload_n 0, 1) := by decide +kernel
theorem dL_law_1115 : decode cL_law 1115 = .ok (.iload_n 3, 1) := by decide +kernel
theorem dL_law_1116 : decode cL_law 1116 = .ok (.iconst 3, 1) := by decide +kernel
theorem dL_law_1117 : decode cL_law 1117 = .ok (.iadd, 1) := by decide +kernel
theorem dL_law_1118 : decode cL_law 1118 = .ok (.iaload, 1) := by decide +kernel
theorem dL_law_1119 : decode cL_law 1119 = .ok (.i2l, 1) := by decide +kernel
theorem dL_law_1120 : decode cL_law 1120 = .ok (.ldc2_w 23, 3) := by decide +kernel
theorem dL_law_1123 : decode cL_law 1123 = .ok (.land, 1) := by decide +kernel
theorem dL_law_1124 : decode cL_law 1124 = .ok (.lor, 1) := by decide +kernel
theorem dL_law_1125 : decode cL_law 1125 = .ok (.aload_n 0, 1) := by decide +kernel
theorem dL_law_1126 : decode cL_law 1126 = .ok (.iload_n 3, 1) := by decide +kernel
theorem dL_law_1127 : decode cL_law 1127 = .ok (.iconst 4, 1) := by decide +kernel
theorem dL_law_1128 : decode cL_law 1128 = .ok (.iadd, 1) := by decide +kernel
theorem dL_law_1129 : decode cL_law 1129 = .ok (.iaload, 1) := by decide +kernel
theorem dL_law_1130 : decode cL_law 1130 = .ok (.invokevirtual 105, 3) := by decide +kernel
theorem dL_law_1133 : decode cL_law 1133 = .ok (.aload_n 2, 1) := by decide +kernel
theorem dL_law_1134 : decode cL_law 1134 = .ok (.aload_n 0, 1) := by decide +kernel
theorem dL_law_1135 : decode cL_law 1135 = .ok (.iload_n 3, 1) := by decide +kernel
theorem dL_law_1136 : decode cL_law 1136 = .ok (.iconst 1, 1) := by decide +kernel
theorem dL_law_1137 : decode cL_law 1137 = .ok (.iadd, 1) := by decide +kernel
theorem dL_law_1138 : decode cL_law 1138 = .ok (.iaload, 1) := by decide +kernel
theorem dL_law_1139 : decode cL_law 1139 = .ok (.aload_n 0, 1) := by decide +kernel
theorem dL_law_1140 : decode cL_law 1140 = .ok (.iload_n 3, 1) := by decide +kernel
theorem dL_law_1141 : decode cL_law 1141 = .ok (.iconst 2, 1) := by decide +kernel
theorem dL_law_1142 : decode cL_law 1142 = .ok (.iadd, 1) := by decide +kernel
theorem dL_law_1143 : decode cL_law 1143 = .ok (.iaload, 1) := by decide +kernel
theorem dL_law_1144 : decode cL_law 1144 = .ok (.i2l, 1) := by decide +kernel
theorem dL_law_1145 : decode cL_law 1145 = .ok (.bipush 32, 2) := by decide +kernel
theorem dL_law_1147 : decode cL_law 1147 = .ok (.lshl, 1) := by decide +kernel
theorem dL_law_1148 : decode cL_law 1148 = .ok (.aload_n 0, 1) := by decide +kernel
theorem dL_law_1149 : decode cL_law 1149 = .ok (.iload_n 3, 1) := by decide +kernel
theorem dL_law_1150 : decode cL_law 1150 = .ok (.iconst 3, 1) := by decide +kernel
theorem dL_law_1151 : decode cL_law 1151 = .ok (.iadd, 1) := by decide +kernel
theorem dL_law_1152 : decode cL_law 1152 = .ok (.iaload, 1) := by decide +kernel
theorem dL_law_1153 : decode cL_law 1153 = .ok (.i2l, 1) := by decide +kernel
theorem dL_law_1154 : decode cL_law 1154 = .ok (.ldc2_w 23, 3) := by decide +kernel
theorem dL_law_1157 : decode cL_law 1157 = .ok (.land, 1) := by decide +kernel
theorem dL_law_1158 : decode cL_law 1158 = .ok (.lor, 1) := by decide +kernel
theorem dL_law_1159 : decode cL_law 1159 = .ok (.aload_n 0, 1) := by decide +kernel
theorem dL_law_1160 : decode cL_law 1160 = .ok (.iload_n 3, 1) := by decide +kernel
theorem dL_law_1161 : decode cL_law 1161 = .ok (.iconst 4, 1) := by decide +kernel
theorem dL_law_1162 : decode cL_law 1162 = .ok (.iadd, 1) := by decide +kernel
theorem dL_law_1163 : decode cL_law 1163 = .ok (.iaload, 1) := by decide +kernel
theorem dL_law_1164 : decode cL_law 1164 = .ok (.invokevirtual 109, 3) := by decide +kernel
theorem dL_law_1167 : decode cL_law 1167 = .ok (.lcmp, 1) := by decide +kernel
theorem dL_law_1168 : decode cL_law 1168 = .ok (.ifCond .eq 369, 3) := by decide +kernel
theorem dL_law_1171 : decode cL_law 1171 = .ok (.iconst 0, 1) := by decide +kernel
theorem dL_law_1172 : decode cL_law 1172 = .ok (.ireturn, 1) := by decide +kernel
theorem dL_law_1173 : decode cL_law 1173 = .ok (.aload_n 1, 1) := by decide +kernel
theorem dL_law_1174 : decode cL_law 1174 = .ok (.aload_n 0, 1) := by decide +kernel
theorem dL_law_1175 : decode cL_law 1175 = .ok (.iload_n 3, 1) := by decide +kernel
theorem dL_law_1176 : decode cL_law 1176 = .ok (.iconst 1, 1) := by decide +kernel
theorem dL_law_1177 : decode cL_law 1177 = .ok (.iadd, 1) := by decide +kernel
theorem dL_law_1178 : decode cL_law 1178 = .ok (.iaload, 1) := by decide +kernel
theorem dL_law_1179 : decode cL_law 1179 = .ok (.aload_n 0, 1) := by decide +kernel
theorem dL_law_1180 : decode cL_law 1180 = .ok (.iload_n 3, 1) := by decide +kernel
theorem dL_law_1181 : decode cL_law 1181 = .ok (.iconst 2, 1) := by decide +kernel
theorem dL_law_1182 : decode cL_law 1182 = .ok (.iadd, 1) := by decide +kernel
theorem dL_law_1183 : decode cL_law 1183 = .ok (.iaload, 1) := by decide +kernel
theorem dL_law_1184 : decode cL_law 1184 = .ok (.i2l, 1) := by decide +kernel
theorem dL_law_1185 : decode cL_law 1185 = .ok (.bipush 32, 2) := by decide +kernel
theorem dL_law_1187 : decode cL_law 1187 = .ok (.lshl, 1) := by decide +kernel
theorem dL_law_1188 : decode cL_law 1188 = .ok (.aload_n 0, 1) := by decide +kernel
theorem dL_law_1189 : decode cL_law 1189 = .ok (.iload_n 3, 1) := by decide +kernel
theorem dL_law_1190 : decode cL_law 1190 = .ok (.iconst 3, 1) := by decide +kernel
theorem dL_law_1191 : decode cL_law 1191 = .ok (.iadd, 1) := by decide +kernel
theorem dL_law_1192 : decode cL_law 1192 = .ok (.iaload, 1) := by decide +kernel
theorem dL_law_1193 : decode cL_law 1193 = .ok (.i2l, 1) := by decide +kernel
theorem dL_law_1194 : decode cL_law 1194 = .ok (.ldc2_w 23, 3) := by decide +kernel
theorem dL_law_1197 : decode cL_law 1197 = .ok (.land, 1) := by decide +kernel
theorem dL_law_1198 : decode cL_law 1198 = .ok (.lor, 1) := by decide +kernel
theorem dL_law_1199 : decode cL_law 1199 = .ok (.invokevirtual 110, 3) := by decide +kernel
theorem dL_law_1202 : decode cL_law 1202 = .ok (.aload_n 2, 1) := by decide +kernel
theorem dL_law_1203 : decode cL_law 1203 = .ok (.aload_n 0, 1) := by decide +kernel
theorem dL_law_1204 : decode cL_law 1204 = .ok (.iload_n 3, 1) := by decide +kernel
theorem dL_law_1205 : decode cL_law 1205 = .ok (.iconst 1, 1) := by decide +kernel
theorem dL_law_1206 : decode cL_law 1206 = .ok (.iadd, 1) := by decide +kernel
theorem dL_law_1207 : decode cL_law 1207 = .ok (.iaload, 1) := by decide +kernel
theorem dL_law_1208 : decode cL_law 1208 = .ok (.aload_n 0, 1) := by decide +kernel
theorem dL_law_1209 : decode cL_law 1209 = .ok (.iload_n 3, 1) := by decide +kernel
theorem dL_law_1210 : decode cL_law 1210 = .ok (.iconst 2, 1) := by decide +kernel
theorem dL_law_1211 : decode cL_law 1211 = .ok (.iadd, 1) := by decide +kernel
theorem dL_law_1212 : decode cL_law 1212 = .ok (.iaload, 1) := by decide +kernel
theorem dL_law_1213 : decode cL_law 1213 = .ok (.i2l, 1) := by decide +kernel
theorem dL_law_1214 : decode cL_law 1214 = .ok (.bipush 32, 2) := by decide +kernel
theorem dL_law_1216 : decode cL_law 1216 = .ok (.lshl, 1) := by decide +kernel
theorem dL_law_1217 : decode cL_law 1217 = .ok (.aload_n 0, 1) := by decide +kernel
theorem dL_law_1218 : decode cL_law 1218 = .ok (.iload_n 3, 1) := by decide +kernel
theorem dL_law_1219 : decode cL_law 1219 = .ok (.iconst 3, 1) := by decide +kernel
theorem dL_law_1220 : decode cL_law 1220 = .ok (.iadd, 1) := by decide +kernel
theorem dL_law_1221 : decode cL_law 1221 = .ok (.iaload, 1) := by decide +kernel
theorem dL_law_1222 : decode cL_law 1222 = .ok (.i2l, 1) := by decide +kernel
theorem dL_law_1223 : decode cL_law 1223 = .ok (.ldc2_w 23, 3) := by decide +kernel
theorem dL_law_1226 : decode cL_law 1226 = .ok (.land, 1) := by decide +kernel
theorem dL_law_1227 : decode cL_law 1227 = .ok (.lor, 1) := by decide +kernel
theorem dL_law_1228 : decode cL_law 1228 = .ok (.invokevirtual 113, 3) := by decide +kernel
theorem dL_law_1231 : decode cL_law 1231 = .ok (.if_icmp .eq 306, 3) := by decide +kernel
theorem dL_law_1234 : decode cL_law 1234 = .ok (.iconst 0, 1) := by decide +kernel
theorem dL_law_1235 : decode cL_law 1235 = .ok (.ireturn, 1) := by decide +kernel
theorem dL_law_1236 : decode cL_law 1236 = .ok (.aload_n 1, 1) := by decide +kernel
theorem dL_law_1237 : decode cL_law 1237 = .ok (.aload_n 0, 1) := by decide +kernel
theorem dL_law_1238 : decode cL_law 1238 = .ok (.iload_n 3, 1) := by decide +kernel
theorem dL_law_1239 : decode cL_law 1239 = .ok (.iconst 1, 1) := by decide +kernel
theorem dL_law_1240 : decode cL_law 1240 = .ok (.iadd, 1) := by decide +kernel
theorem dL_law_1241 : decode cL_law 1241 = .ok (.iaload, 1) := by decide +kernel
theorem dL_law_1242 : decode cL_law 1242 = .ok (.aload_n 0, 1) := by decide +kernel
theorem dL_law_1243 : decode cL_law 1243 = .ok (.iload_n 3, 1) := by decide +kernel
theorem dL_law_1244 : decode cL_law 1244 = .ok (.iconst 2, 1) := by decide +kernel
theorem dL_law_1245 : decode cL_law 1245 = .ok (.iadd, 1) := by decide +kernel
theorem dL_law_1246 : decode cL_law 1246 = .ok (.iaload, 1) := by decide +kernel
theorem dL_law_1247 : decode cL_law 1247 = .ok (.invokevirtual 114, 3) := by decide +kernel
theorem dL_law_1250 : decode cL_law 1250 = .ok (.aload_n 2, 1) := by decide +kernel
theorem dL_law_1251 : decode cL_law 1251 = .ok (.aload_n 0, 1) := by decide +kernel
theorem dL_law_1252 : decode cL_law 1252 = .ok (.iload_n 3, 1) := by decide +kernel
theorem dL_law_1253 : decode cL_law 1253 = .ok (.iconst 1, 1) := by decide +kernel
theorem dL_law_1254 : decode cL_law 1254 = .ok (.iadd, 1) := by decide +kernel
theorem dL_law_1255 : decode cL_law 1255 = .ok (.iaload, 1) := by decide +kernel
theorem dL_law_1256 : decode cL_law 1256 = .ok (.aload_n 0, 1) := by decide +kernel
theorem dL_law_1257 : decode cL_law 1257 = .ok (.iload_n 3, 1) := by decide +kernel
theorem dL_law_1258 : decode cL_law 1258 = .ok (.iconst 2, 1) := by decide +kernel
theorem dL_law_1259 : decode cL_law 1259 = .ok (.iadd, 1) := by decide +kernel
theorem dL_law_1260 : decode cL_law 1260 = .ok (.iaload, 1) := by decide +kernel
theorem dL_law_1261 : decode cL_law 1261 = .ok (.invokevirtual 117, 3) := by decide +kernel
theorem dL_law_1264 : decode cL_law 1264 = .ok (.if_icmp .eq 273, 3) := by decide +kernel
theorem dL_law_1267 : decode cL_law 1267 = .ok (.iconst 0, 1) := by decide +kernel
theorem dL_law_1268 : decode cL_law 1268 = .ok (.ireturn, 1) := by decide +kernel
theorem dL_law_1269 : decode cL_law 1269 = .ok (.aload_n 1, 1) := by decide +kernel
theorem dL_law_1270 : decode cL_law 1270 = .ok (.aload_n 0, 1) := by decide +kernel
theorem dL_law_1271 : decode cL_law 1271 = .ok (.iload_n 3, 1) := by decide +kernel
theorem dL_law_1272 : decode cL_law 1272 = .ok (.iconst 1, 1) := by decide +kernel
theorem dL_law_1273 : decode cL_law 1273 = .ok (.iadd, 1) := by decide +kernel
theorem dL_law_1274 : decode cL_law 1274 = .ok (.iaload, 1) := by decide +kernel
theorem dL_law_1275 : decode cL_law 1275 = .ok (.invokevirtual 118, 3) := by decide +kernel
theorem dL_law_1278 : decode cL_law 1278 = .ok (.aload_n 2, 1) := by decide +kernel
theorem dL_law_1279 : decode cL_law 1279 = .ok (.aload_n 0, 1) := by decide +kernel
theorem dL_law_1280 : decode cL_law 1280 = .ok (.iload_n 3, 1) := by decide +kernel
theorem dL_law_1281 : decode cL_law 1281 = .ok (.iconst 1, 1) := by decide +kernel
theorem dL_law_1282 : decode cL_law 1282 = .ok (.iadd, 1) := by decide +kernel
theorem dL_law_1283 : decode cL_law 1283 = .ok (.iaload, 1) := by decide +kernel
theorem dL_law_1284 : decode cL_law 1284 = .ok (.invokevirtual 121, 3) := by decide +kernel
theorem dL_law_1287 : decode cL_law 1287 = .ok (.if_icmp .eq 250, 3) := by decide +kernel
theorem dL_law_1290 : decode cL_law 1290 = .ok (.iconst 0, 1) := by decide +kernel
theorem dL_law_1291 : decode cL_law 1291 = .ok (.ireturn, 1) := by decide +kernel
theorem dL_law_1292 : decode cL_law 1292 = .ok (.aload_n 1, 1) := by decide +kernel
theorem dL_law_1293 : decode cL_law 1293 = .ok (.invokevirtual 122, 3) := by decide +kernel
theorem dL_law_1296 : decode cL_law 1296 = .ok (.aload_n 2, 1) := by decide +kernel
theorem dL_law_1297 : decode cL_law 1297 = .ok (.invokevirtual 126, 3) := by decide +kernel
theorem dL_law_1300 : decode cL_law 1300 = .ok (.if_icmp .eq 237, 3) := by decide +kernel
theorem dL_law_1303 : decode cL_law 1303 = .ok (.iconst 0, 1) := by decide +kernel
theorem dL_law_1304 : decode cL_law 1304 = .ok (.ireturn, 1) := by decide +kernel
theorem dL_law_1305 : decode cL_law 1305 = .ok (.aload_n 1, 1) := by decide +kernel
theorem dL_law_1306 : decode cL_law 1306 = .ok (.invokevirtual 127, 3) := by decide +kernel
theorem dL_law_1309 : decode cL_law 1309 = .ok (.aload_n 2, 1) := by decide +kernel
theorem dL_law_1310 : decode cL_law 1310 = .ok (.invokevirtual 130, 3) := by decide +kernel
theorem dL_law_1313 : decode cL_law 1313 = .ok (.if_icmp .eq 224, 3) := by decide +kernel
theorem dL_law_1316 : decode cL_law 1316 = .ok (.iconst 0, 1) := by decide +kernel
theorem dL_law_1317 : decode cL_law 1317 = .ok (.ireturn, 1) := by decide +kernel
theorem dL_law_1318 : decode cL_law 1318 = .ok (.aload_n 1, 1) := by decide +kernel
theorem dL_law_1319 : decode cL_law 1319 = .ok (.invokevirtual 131, 3) := by decide +kernel
theorem dL_law_1322 : decode cL_law 1322 = .ok (.aload_n 2, 1) := by decide +kernel
theorem dL_law_1323 : decode cL_law 1323 = .ok (.invokevirtual 134, 3) := by decide +kernel
theorem dL_law_1326 : decode cL_law 1326 = .ok (.if_icmp .eq 211, 3) := by decide +kernel
theorem dL_law_1329 : decode cL_law 1329 = .ok (.iconst 0, 1) := by decide +kernel
theorem dL_law_1330 : decode cL_law 1330 = .ok (.ireturn, 1) := by decide +kernel
theorem dL_law_1331 : decode cL_law 1331 = .ok (.aload_n 1, 1) := by decide +kernel
theorem dL_law_1332 : decode cL_law 1332 = .ok (.aload_n 0, 1) := by decide +kernel
theorem dL_law_1333 : decode cL_law 1333 = .ok (.iload_n 3, 1) := by decide +kernel
theorem dL_law_1334 : decode cL_law 1334 = .ok (.iconst 1, 1) := by decide +kernel
theorem dL_law_1335 : decode cL_law 1335 = .ok (.iadd, 1) := by decide +kernel
theorem dL_law_1336 : decode cL_law 1336 = .ok (.iaload, 1) := by decide +kernel
theorem dL_law_1337 : decode cL_law 1337 = .ok (.aload_n 0, 1) := by decide +kernel
theorem dL_law_1338 : decode cL_law 1338 = .ok (.iload_n 3, 1) := by decide +kernel
theorem dL_law_1339 : decode cL_law 1339 = .ok (.iconst 2, 1) := by decide +kernel
theorem dL_law_1340 : decode cL_law 1340 = .ok (.iadd, 1) := by decide +kernel
theorem dL_law_1341 : decode cL_law 1341 = .ok (.iaload, 1) := by decide +kernel
theorem dL_law_1342 : decode cL_law 1342 = .ok (.aload_n 0, 1) := by decide +kernel
theorem dL_law_1343 : decode cL_law 1343 = .ok (.iload_n 3, 1) := by decide +kernel
theorem dL_law_1344 : decode cL_law 1344 = .ok (.iconst 3, 1) := by decide +kernel
theorem dL_law_1345 : decode cL_law 1345 = .ok (.iadd, 1) := by decide +kernel
theorem dL_law_1346 : decode cL_law 1346 = .ok (.iaload, 1) := by decide +kernel
theorem dL_law_1347 : decode cL_law 1347 = .ok (.invokevirtual 135, 3) := by decide +kernel
theorem dL_law_1350 : decode cL_law 1350 = .ok (.aload_n 2, 1) := by decide +kernel
theorem dL_law_1351 : decode cL_law 1351 = .ok (.aload_n 0, 1) := by decide +kernel
theorem dL_law_1352 : decode cL_law 1352 = .ok (.iload_n 3, 1) := by decide +kernel
theorem dL_law_1353 : decode cL_law 1353 = .ok (.iconst 1, 1) := by decide +kernel
theorem dL_law_1354 : decode cL_law 1354 = .ok (.iadd, 1) := by decide +kernel
theorem dL_law_1355 : decode cL_law 1355 = .ok (.iaload, 1) := by decide +kernel
theorem dL_law_1356 : decode cL_law 1356 = .ok (.aload_n 0, 1) := by decide +kernel
theorem dL_law_1357 : decode cL_law 1357 = .ok (.iload_n 3, 1) := by decide +kernel
theorem dL_law_1358 : decode cL_law 1358 = .ok (.iconst 2, 1) := by decide +kernel
theorem dL_law_1359 : decode cL_law 1359 = .ok (.iadd, 1) := by decide +kernel
theorem dL_law_1360 : decode cL_law 1360 = .ok (.iaload, 1) := by decide +kernel
theorem dL_law_1361 : decode cL_law 1361 = .ok (.aload_n 0, 1) := by decide +kernel
theorem dL_law_1362 : decode cL_law 1362 = .ok (.iload_n 3, 1) := by decide +kernel
theorem dL_law_1363 : decode cL_law 1363 = .ok (.iconst 3, 1) := by decide +kernel
theorem dL_law_1364 : decode cL_law 1364 = .ok (.iadd, 1) := by decide +kernel
theorem dL_law_1365 : decode cL_law 1365 = .ok (.iaload, 1) := by decide +kernel
theorem dL_law_1366 : decode cL_law 1366 = .ok (.invokevirtual 138, 3) := by decide +kernel
theorem dL_law_1369 : decode cL_law 1369 = .ok (.if_icmp .eq 168, 3) := by decide +kernel
theorem dL_law_1372 : decode cL_law 1372 = .ok (.iconst 0, 1) := by decide +kernel
theorem dL_law_1373 : decode cL_law 1373 = .ok (.ireturn, 1) := by decide +kernel
theorem dL_law_1374 : decode cL_law 1374 = .ok (.aload_n 1, 1) := by decide +kernel
theorem dL_law_1375 : decode cL_law 1375 = .ok (.aload_n 0, 1) := by decide +kernel
theorem dL_law_1376 : decode cL_law 1376 = .ok (.iload_n 3, 1) := by decide +kernel
theorem dL_law_1377 : decode cL_law 1377 = .ok (.iconst 1, 1) := by decide +kernel
theorem dL_law_1378 : decode cL_law 1378 = .ok (.iadd, 1) := by decide +kernel
theorem dL_law_1379 : decode cL_law 1379 = .ok (.iaload, 1) := by decide +kernel
theorem dL_law_1380 : decode cL_law 1380 = .ok (.aload_n 0, 1) := by decide +kernel
theorem dL_law_1381 : decode cL_law 1381 = .ok (.iload_n 3, 1) := by decide +kernel
theorem dL_law_1382 : decode cL_law 1382 = .ok (.iconst 2, 1) := by decide +kernel
theorem dL_law_1383 : decode cL_law 1383 = .ok (.iadd, 1) := by decide +kernel
theorem dL_law_1384 : decode cL_law 1384 = .ok (.iaload, 1) := by decide +kernel
theorem dL_law_1385 : decode cL_law 1385 = .ok (.invokevirtual 139, 3) := by decide +kernel
theorem dL_law_1388 : decode cL_law 1388 = .ok (.aload_n 2, 1) := by decide +kernel
theorem dL_law_1389 : decode cL_law 1389 = .ok (.aload_n 0, 1) := by decide +kernel
theorem dL_law_1390 : decode cL_law 1390 = .ok (.iload_n 3, 1) := by decide +kernel
theorem dL_law_1391 : decode cL_law 1391 = .ok (.iconst 1, 1) := by decide +kernel
theorem dL_law_1392 : decode cL_law 1392 = .ok (.iadd, 1) := by decide +kernel
theorem dL_law_1393 : decode cL_law 1393 = .ok (.iaload, 1) := by decide +kernel
theorem dL_law_1394 : decode cL_law 1394 = .ok (.aload_n 0, 1) := by decide +kernel
theorem dL_law_1395 : decode cL_law 1395 = .ok (.iload_n 3, 1) := by decide +kernel
theorem dL_law_1396 : decode cL_law 1396 = .ok (.iconst 2, 1) := by decide +kernel
theorem dL_law_1397 : decode cL_law 1397 = .ok (.iadd, 1) := by decide +kernel
theorem dL_law_1398 : decode cL_law 1398 = .ok (.iaload, 1) := by decide +kernel
theorem dL_law_1399 : decode cL_law 1399 = .ok (.invokevirtual 142, 3) := by decide +kernel
theorem dL_law_1402 : decode cL_law 1402 = .ok (.if_icmp .eq 135, 3) := by decide +kernel
theorem dL_law_1405 : decode cL_law 1405 = .ok (.iconst 0, 1) := by decide +kernel
theorem dL_law_1406 : decode cL_law 1406 = .ok (.ireturn, 1) := by decide +kernel
theorem dL_law_1407 : decode cL_law 1407 = .ok (.aload_n 1, 1) := by decide +kernel
theorem dL_law_1408 : decode cL_law 1408 = .ok (.aload_n 0, 1) := by decide +kernel
theorem dL_law_1409 : decode cL_law 1409 = .ok (.iload_n 3, 1) := by decide +kernel
theorem dL_law_1410 : decode cL_law 1410 = .ok (.iconst 1, 1) := by decide +kernel
theorem dL_law_1411 : decode cL_law 1411 = .ok (.iadd, 1) := by decide +kernel
theorem dL_law_1412 : decode cL_law 1412 = .ok (.iaload, 1) := by decide +kernel
theorem dL_law_1413 : decode cL_law 1413 = .ok (.aload_n 0, 1) := by decide +kernel
theorem dL_law_1414 : decode cL_law 1414 = .ok (.iload_n 3, 1) := by decide +kernel
theorem dL_law_1415 : decode cL_law 1415 = .ok (.iconst 2, 1) := by decide +kernel
theorem dL_law_1416 : decode cL_law 1416 = .ok (.iadd, 1) := by decide +kernel
theorem dL_law_1417 : decode cL_law 1417 = .ok (.iaload, 1) := by decide +kernel
theorem dL_law_1418 : decode cL_law 1418 = .ok (.aload_n 0, 1) := by decide +kernel
theorem dL_law_1419 : decode cL_law 1419 = .ok (.iload_n 3, 1) := by decide +kernel
theorem dL_law_1420 : decode cL_law 1420 = .ok (.iconst 3, 1) := by decide +kernel
theorem dL_law_1421 : decode cL_law 1421 = .ok (.iadd, 1) := by decide +kernel
theorem dL_law_1422 : decode cL_law 1422 = .ok (.iaload, 1) := by decide +kernel
theorem dL_law_1423 : decode cL_law 1423 = .ok (.i2l, 1) := by decide +kernel
theorem dL_law_1424 : decode cL_law 1424 = .ok (.bipush 32, 2) := by decide +kernel
theorem dL_law_1426 : decode cL_law 1426 = .ok (.lshl, 1) := by decide +kernel
theorem dL_law_1427 : decode cL_law 1427 = .ok (.aload_n 0, 1) := by decide +kernel
theorem dL_law_1428 : decode cL_law 1428 = .ok (.iload_n 3, 1) := by decide +kernel
theorem dL_law_1429 : decode cL_law 1429 = .ok (.iconst 4, 1) := by decide +kernel
theorem dL_law_1430 : decode cL_law 1430 = .ok (.iadd, 1) := by decide +kernel
theorem dL_law_1431 : decode cL_law 1431 = .ok (.iaload, 1) := by decide +kernel
theorem dL_law_1432 : decode cL_law 1432 = .ok (.i2l, 1) := by decide +kernel
theorem dL_law_1433 : decode cL_law 1433 = .ok (.ldc2_w 23, 3) := by decide +kernel
theorem dL_law_1436 : decode cL_law 1436 = .ok (.land, 1) := by decide +kernel
theorem dL_law_1437 : decode cL_law 1437 = .ok (.lor, 1) := by decide +kernel
theorem dL_law_1438 : decode cL_law 1438 = .ok (.invokevirtual 143, 3) := by decide +kernel
theorem dL_law_1441 : decode cL_law 1441 = .ok (.aload_n 2, 1) := by decide +kernel
theorem dL_law_1442 : decode cL_law 1442 = .ok (.aload_n 0, 1) := by decide +kernel
theorem dL_law_1443 : decode cL_law 1443 = .ok (.iload_n 3, 1) := by decide +kernel
theorem dL_law_1444 : decode cL_law 1444 = .ok (.iconst 1, 1) := by decide +kernel
theorem dL_law_1445 : decode cL_law 1445 = .ok (.iadd, 1) := by decide +kernel
theorem dL_law_1446 : decode cL_law 1446 = .ok (.iaload, 1) := by decide +kernel
theorem dL_law_1447 : decode cL_law 1447 = .ok (.aload_n 0, 1) := by decide +kernel
theorem dL_law_1448 : decode cL_law 1448 = .ok (.iload_n 3, 1) := by decide +kernel
theorem dL_law_1449 : decode cL_law 1449 = .ok (.iconst 2, 1) := by decide +kernel
theorem dL_law_1450 : decode cL_law 1450 = .ok (.iadd, 1) := by decide +kernel
theorem dL_law_1451 : decode cL_law 1451 = .ok (.iaload, 1) := by decide +kernel
theorem dL_law_1452 : decode cL_law 1452 = .ok (.aload_n 0, 1) := by decide +kernel
theorem dL_law_1453 : decode cL_law 1453 = .ok (.iload_n 3, 1) := by decide +kernel
theorem dL_law_1454 : decode cL_law 1454 = .ok (.iconst 3, 1) := by decide +kernel
theorem dL_law_1455 : decode cL_law 1455 = .ok (.iadd, 1) := by decide +kernel
theorem dL_law_1456 : decode cL_law 1456 = .ok (.iaload, 1) := by decide +kernel
theorem dL_law_1457 : decode cL_law 1457 = .ok (.i2l, 1) := by decide +kernel
theorem dL_law_1458 : decode cL_law 1458 = .ok (.bipush 32, 2) := by decide +kernel
theorem dL_law_1460 : decode cL_law 1460 = .ok (.lshl, 1) := by decide +kernel
theorem dL_law_1461 : decode cL_law 1461 = .ok (.aload_n 0, 1) := by decide +kernel
theorem dL_law_1462 : decode cL_law 1462 = .ok (.iload_n 3, 1) := by decide +kernel
theorem dL_law_1463 : decode cL_law 1463 = .ok (.iconst 4, 1) := by decide +kernel
theorem dL_law_1464 : decode cL_law 1464 = .ok (.iadd, 1) := by decide +kernel
theorem dL_law_1465 : decode cL_law 1465 = .ok (.iaload, 1) := by decide +kernel
theorem dL_law_1466 : decode cL_law 1466 = .ok (.i2l, 1) := by decide +kernel
theorem dL_law_1467 : decode cL_law 1467 = .ok (.ldc2_w 23, 3) := by decide +kernel
theorem dL_law_1470 : decode cL_law 1470 = .ok (.land, 1) := by decide +kernel
theorem dL_law_1471 : decode cL_law 1471 = .ok (.lor, 1) := by decide +kernel
theorem dL_law_1472 : decode cL_law 1472 = .ok (.invokevirtual 147, 3) := by decide +kernel
theorem dL_law_1475 : decode cL_law 1475 = .ok (.if_icmp .eq 62, 3) := by decide +kernel
theorem dL_law_1478 : decode cL_law 1478 = .ok (.iconst 0, 1) := by decide +kernel
theorem dL_law_1479 : decode cL_law 1479 = .ok (.ireturn, 1) := by decide +kernel
theorem dL_law_1480 : decode cL_law 1480 = .ok (.aload_n 1, 1) := by decide +kernel
theorem dL_law_1481 : decode cL_law 1481 = .ok (.aload_n 0, 1) := by decide +kernel
theorem dL_law_1482 : decode cL_law 1482 = .ok (.iload_n 3, 1) := by decide +kernel
theorem dL_law_1483 : decode cL_law 1483 = .ok (.iconst 1, 1) := by decide +kernel
theorem dL_law_1484 : decode cL_law 1484 = .ok (.iadd, 1) := by decide +kernel
theorem dL_law_1485 : decode cL_law 1485 = .ok (.iaload, 1) := by decide +kernel
theorem dL_law_1486 : decode cL_law 1486 = .ok (.aload_n 0, 1) := by decide +kernel
theorem dL_law_1487 : decode cL_law 1487 = .ok (.iload_n 3, 1) := by decide +kernel
theorem dL_law_1488 : decode cL_law 1488 = .ok (.iconst 2, 1) := by decide +kernel
theorem dL_law_1489 : decode cL_law 1489 = .ok (.iadd, 1) := by decide +kernel
theorem dL_law_1490 : decode cL_law 1490 = .ok (.iaload, 1) := by decide +kernel
theorem dL_law_1491 : decode cL_law 1491 = .ok (.invokevirtual 148, 3) := by decide +kernel
theorem dL_law_1494 : decode cL_law 1494 = .ok (.aload_n 2, 1) := by decide +kernel
theorem dL_law_1495 : decode cL_law 1495 = .ok (.aload_n 0, 1) := by decide +kernel
theorem dL_law_1496 : decode cL_law 1496 = .ok (.iload_n 3, 1) := by decide +kernel
theorem dL_law_1497 : decode cL_law 1497 = .ok (.iconst 1, 1) := by decide +kernel
theorem dL_law_1498 : decode cL_law 1498 = .ok (.iadd, 1) := by decide +kernel
theorem dL_law_1499 : decode cL_law 1499 = .ok (.iaload, 1) := by decide +kernel
theorem dL_law_1500 : decode cL_law 1500 = .ok (.aload_n 0, 1) := by decide +kernel
theorem dL_law_1501 : decode cL_law 1501 = .ok (.iload_n 3, 1) := by decide +kernel
theorem dL_law_1502 : decode cL_law 1502 = .ok (.iconst 2, 1) := by decide +kernel
theorem dL_law_1503 : decode cL_law 1503 = .ok (.iadd, 1) := by decide +kernel
theorem dL_law_1504 : decode cL_law 1504 = .ok (.iaload, 1) := by decide +kernel
theorem dL_law_1505 : decode cL_law 1505 = .ok (.invokevirtual 151, 3) := by decide +kernel
theorem dL_law_1508 : decode cL_law 1508 = .ok (.lcmp, 1) := by decide +kernel
theorem dL_law_1509 : decode cL_law 1509 = .ok (.ifCond .eq 28, 3) := by decide +kernel
theorem dL_law_1512 : decode cL_law 1512 = .ok (.iconst 0, 1) := by decide +kernel
theorem dL_law_1513 : decode cL_law 1513 = .ok (.ireturn, 1) := by decide +kernel
theorem dL_law_1514 : decode cL_law 1514 = .ok (.aload_n 1, 1) := by decide +kernel
theorem dL_law_1515 : decode cL_law 1515 = .ok (.aload_n 0, 1) := by decide +kernel
theorem dL_law_1516 : decode cL_law 1516 = .ok (.iload_n 3, 1) := by decide +kernel
theorem dL_law_1517 : decode cL_law 1517 = .ok (.iconst 1, 1) := by decide +kernel
theorem dL_law_1518 : decode cL_law 1518 = .ok (.iadd, 1) := by decide +kernel
theorem dL_law_1519 : decode cL_law 1519 = .ok (.iaload, 1) := by decide +kernel
theorem dL_law_1520 : decode cL_law 1520 = .ok (.invokevirtual 152, 3) := by decide +kernel
theorem dL_law_1523 : decode cL_law 1523 = .ok (.aload_n 2, 1) := by decide +kernel
theorem dL_law_1524 : decode cL_law 1524 = .ok (.aload_n 0, 1) := by decide +kernel
theorem dL_law_1525 : decode cL_law 1525 = .ok (.iload_n 3, 1) := by decide +kernel
theorem dL_law_1526 : decode cL_law 1526 = .ok (.iconst 1, 1) := by decide +kernel
theorem dL_law_1527 : decode cL_law 1527 = .ok (.iadd, 1) := by decide +kernel
theorem dL_law_1528 : decode cL_law 1528 = .ok (.iaload, 1) := by decide +kernel
theorem dL_law_1529 : decode cL_law 1529 = .ok (.invokevirtual 155, 3) := by decide +kernel
theorem dL_law_1532 : decode cL_law 1532 = .ok (.if_icmp .eq 5, 3) := by decide +kernel
theorem dL_law_1535 : decode cL_law 1535 = .ok (.iconst 0, 1) := by decide +kernel
theorem dL_law_1536 : decode cL_law 1536 = .ok (.ireturn, 1) := by decide +kernel
theorem dL_law_1537 : decode cL_law 1537 = .ok (.iinc 3 7, 3) := by decide +kernel
theorem dL_law_1540 : decode cL_law 1540 = .ok (.goto (-1522), 3) := by decide +kernel
theorem dL_law_1543 : decode cL_law 1543 = .ok (.iconst 1, 1) := by decide +kernel
theorem dL_law_1544 : decode cL_law 1544 = .ok (.ireturn, 1) := by decide +kernel
end
section
theorem dX0_isRateOfPeriod_0 : decode cX0_isRateOfPeriod 0 = .ok (.lload_n 0, 1) := by decide +kernel
theorem dX0_isRateOfPeriod_1 : decode cX0_isRateOfPeriod 1 = .ok (.lconst 0, 1) := by decide +kernel
theorem dX0_isRateOfPeriod_2 : decode cX0_isRateOfPeriod 2 = .ok (.lcmp, 1) := by decide +kernel
theorem dX0_isRateOfPeriod_3 : decode cX0_isRateOfPeriod 3 = .ok (.ifCond .lt 11, 3) := by decide +kernel
theorem dX0_isRateOfPeriod_6 : decode cX0_isRateOfPeriod 6 = .ok (.lload_n 0, 1) := by decide +kernel
theorem dX0_isRateOfPeriod_7 : decode cX0_isRateOfPeriod 7 = .ok (.ldc2_w 9, 3) := by decide +kernel
theorem dX0_isRateOfPeriod_10 : decode cX0_isRateOfPeriod 10 = .ok (.lcmp, 1) := by decide +kernel
theorem dX0_isRateOfPeriod_11 : decode cX0_isRateOfPeriod 11 = .ok (.ifCond .le 11, 3) := by decide +kernel
theorem dX0_isRateOfPeriod_14 : decode cX0_isRateOfPeriod 14 = .ok (.lload_n 0, 1) := by decide +kernel
theorem dX0_isRateOfPeriod_15 : decode cX0_isRateOfPeriod 15 = .ok (.ldc2_w 13, 3) := by decide +kernel
theorem dX0_isRateOfPeriod_18 : decode cX0_isRateOfPeriod 18 = .ok (.lcmp, 1) := by decide +kernel
theorem dX0_isRateOfPeriod_19 : decode cX0_isRateOfPeriod 19 = .ok (.ifCond .ne 7, 3) := by decide +kernel
theorem dX0_isRateOfPeriod_22 : decode cX0_isRateOfPeriod 22 = .ok (.iconst 1, 1) := by decide +kernel
theorem dX0_isRateOfPeriod_23 : decode cX0_isRateOfPeriod 23 = .ok (.goto 4, 3) := by decide +kernel
theorem dX0_isRateOfPeriod_26 : decode cX0_isRateOfPeriod 26 = .ok (.iconst 0, 1) := by decide +kernel
theorem dX0_isRateOfPeriod_27 : decode cX0_isRateOfPeriod 27 = .ok (.ireturn, 1) := by decide +kernel
theorem dX0_toDouble_0 : decode cX0_toDouble 0 = .ok (.lload_n 0, 1) := by decide +kernel
theorem dX0_toDouble_1 : decode cX0_toDouble 1 = .ok (.bipush 52, 2) := by decide +kernel
theorem dX0_toDouble_3 : decode cX0_toDouble 3 = .ok (.lushr, 1) := by decide +kernel
theorem dX0_toDouble_4 : decode cX0_toDouble 4 = .ok (.l2i, 1) := by decide +kernel
theorem dX0_toDouble_5 : decode cX0_toDouble 5 = .ok (.sipush 2047, 3) := by decide +kernel
theorem dX0_toDouble_8 : decode cX0_toDouble 8 = .ok (.iand, 1) := by decide +kernel
theorem dX0_toDouble_9 : decode cX0_toDouble 9 = .ok (.istore_n 2, 1) := by decide +kernel
theorem dX0_toDouble_10 : decode cX0_toDouble 10 = .ok (.lload_n 0, 1) := by decide +kernel
theorem dX0_toDouble_11 : decode cX0_toDouble 11 = .ok (.ldc2_w 15, 3) := by decide +kernel
theorem dX0_toDouble_14 : decode cX0_toDouble 14 = .ok (.land, 1) := by decide +kernel
theorem dX0_toDouble_15 : decode cX0_toDouble 15 = .ok (.lstore_n 3, 1) := by decide +kernel
theorem dX0_toDouble_16 : decode cX0_toDouble 16 = .ok (.iload_n 2, 1) := by decide +kernel
theorem dX0_toDouble_17 : decode cX0_toDouble 17 = .ok (.ifCond .ne 8, 3) := by decide +kernel
theorem dX0_toDouble_20 : decode cX0_toDouble 20 = .ok (.lload_n 3, 1) := by decide +kernel
theorem dX0_toDouble_21 : decode cX0_toDouble 21 = .ok (.l2d, 1) := by decide +kernel
theorem dX0_toDouble_22 : decode cX0_toDouble 22 = .ok (.goto 9, 3) := by decide +kernel
theorem dX0_toDouble_25 : decode cX0_toDouble 25 = .ok (.lload_n 3, 1) := by decide +kernel
theorem dX0_toDouble_26 : decode cX0_toDouble 26 = .ok (.ldc2_w 17, 3) := by decide +kernel
theorem dX0_toDouble_29 : decode cX0_toDouble 29 = .ok (.ladd, 1) := by decide +kernel
theorem dX0_toDouble_30 : decode cX0_toDouble 30 = .ok (.l2d, 1) := by decide +kernel
theorem dX0_toDouble_31 : decode cX0_toDouble 31 = .ok (.dstore 5, 2) := by decide +kernel
theorem dX0_toDouble_33 : decode cX0_toDouble 33 = .ok (.iload_n 2, 1) := by decide +kernel
theorem dX0_toDouble_34 : decode cX0_toDouble 34 = .ok (.iconst 1, 1) := by decide +kernel
theorem dX0_toDouble_35 : decode cX0_toDouble 35 = .ok (.invokestatic 19, 3) := by decide +kernel
theorem dX0_toDouble_38 : decode cX0_toDouble 38 = .ok (.sipush 1075, 3) := by decide +kernel
theorem dX0_toDouble_41 : decode cX0_toDouble 41 = .ok (.isub, 1) := by decide +kernel
theorem dX0_toDouble_42 : decode cX0_toDouble 42 = .ok (.istore 7, 2) := by decide +kernel
theorem dX0_toDouble_44 : decode cX0_toDouble 44 = .ok (.iconst 0, 1) := by decide +kernel
theorem dX0_toDouble_45 : decode cX0_toDouble 45 = .ok (.istore 8, 2) := by decide +kernel
theorem dX0_toDouble_47 : decode cX0_toDouble 47 = .ok (.iload 8, 2) := by decide +kernel
theorem dX0_toDouble_49 : decode cX0_toDouble 49 = .ok (.sipush 1100, 3) := by decide +kernel
theorem dX0_toDouble_52 : decode cX0_toDouble 52 = .ok (.if_icmp .ge 32, 3) := by decide +kernel
theorem dX0_toDouble_55 : decode cX0_toDouble 55 = .ok (.iload 7, 2) := by decide +kernel
theorem dX0_toDouble_57 : decode cX0_toDouble 57 = .ok (.ifCond .ge 27, 3) := by decide +kernel
theorem dX0_toDouble_60 : decode cX0_toDouble 60 = .ok (.dload 5, 2) := by decide +kernel
theorem dX0_toDouble_62 : decode cX0_toDouble 62 = .ok (.dconst 0, 1) := by decide +kernel
theorem dX0_toDouble_63 : decode cX0_toDouble 63 = .ok (.dcmp .l, 1) := by decide +kernel
theorem dX0_toDouble_64 : decode cX0_toDouble 64 = .ok (.ifCond .le 20, 3) := by decide +kernel
theorem dX0_toDouble_67 : decode cX0_toDouble 67 = .ok (.dload 5, 2) := by decide +kernel
theorem dX0_toDouble_69 : decode cX0_toDouble 69 = .ok (.ldc2_w 25, 3) := by decide +kernel
theorem dX0_toDouble_72 : decode cX0_toDouble 72 = .ok (.ddiv, 1) := by decide +kernel
theorem dX0_toDouble_73 : decode cX0_toDouble 73 = .ok (.dstore 5, 2) := by decide +kernel
theorem dX0_toDouble_75 : decode cX0_toDouble 75 = .ok (.iinc 7 1, 3) := by decide +kernel
theorem dX0_toDouble_78 : decode cX0_toDouble 78 = .ok (.iinc 8 1, 3) := by decide +kernel
theorem dX0_toDouble_81 : decode cX0_toDouble 81 = .ok (.goto (-34), 3) := by decide +kernel
theorem dX0_toDouble_84 : decode cX0_toDouble 84 = .ok (.dload 5, 2) := by decide +kernel
theorem dX0_toDouble_86 : decode cX0_toDouble 86 = .ok (.dreturn, 1) := by decide +kernel
theorem dX0_ofDouble_0 : decode cX0_ofDouble 0 = .ok (.dload_n 0, 1) := by decide +kernel
theorem dX0_ofDouble_1 : decode cX0_ofDouble 1 = .ok (.dconst 0, 1) := by decide +kernel
theorem dX0_ofDouble_2 : decode cX0_ofDouble 2 = .ok (.dcmp .l, 1) := by decide +kernel
theorem dX0_ofDouble_3 : decode cX0_ofDouble 3 = .ok (.ifCond .gt 5, 3) := by decide +kernel
theorem dX0_ofDouble_6 : decode cX0_ofDouble 6 = .ok (.lconst 0, 1) := by decide +kernel
theorem dX0_ofDouble_7 : decode cX0_ofDouble 7 = .ok (.lreturn, 1) := by decide +kernel
theorem dX0_ofDouble_8 : decode cX0_ofDouble 8 = .ok (.dload_n 0, 1) := by decide +kernel
theorem dX0_ofDouble_9 : decode cX0_ofDouble 9 = .ok (.dstore_n 2, 1) := by decide +kernel
theorem dX0_ofDouble_10 : decode cX0_ofDouble 10 = .ok (.sipush 1023, 3) := by decide +kernel
theorem dX0_ofDouble_13 : decode cX0_ofDouble 13 = .ok (.istore 4, 2) := by decide +kernel
theorem dX0_ofDouble_15 : decode cX0_ofDouble 15 = .ok (.iconst 0, 1) := by decide +kernel
theorem dX0_ofDouble_16 : decode cX0_ofDouble 16 = .ok (.istore 5, 2) := by decide +kernel
theorem dX0_ofDouble_18 : decode cX0_ofDouble 18 = .ok (.iload 5, 2) := by decide +kernel
theorem dX0_ofDouble_20 : decode cX0_ofDouble 20 = .ok (.sipush 1100, 3) := by decide +kernel
theorem dX0_ofDouble_23 : decode cX0_ofDouble 23 = .ok (.if_icmp .ge 26, 3) := by decide +kernel
theorem dX0_ofDouble_26 : decode cX0_ofDouble 26 = .ok (.dload_n 2, 1) := by decide +kernel
theorem dX0_ofDouble_27 : decode cX0_ofDouble 27 = .ok (.ldc2_w 25, 3) := by decide +kernel
theorem dX0_ofDouble_30 : decode cX0_ofDouble 30 = .ok (.dcmp .l, 1) := by decide +kernel
theorem dX0_ofDouble_31 : decode cX0_ofDouble 31 = .ok (.ifCond .lt 18, 3) := by decide +kernel
theorem dX0_ofDouble_34 : decode cX0_ofDouble 34 = .ok (.dload_n 2, 1) := by decide +kernel
theorem dX0_ofDouble_35 : decode cX0_ofDouble 35 = .ok (.ldc2_w 25, 3) := by decide +kernel
theorem dX0_ofDouble_38 : decode cX0_ofDouble 38 = .ok (.ddiv, 1) := by decide +kernel
theorem dX0_ofDouble_39 : decode cX0_ofDouble 39 = .ok (.dstore_n 2, 1) := by decide +kernel
theorem dX0_ofDouble_40 : decode cX0_ofDouble 40 = .ok (.iinc 4 1, 3) := by decide +kernel
theorem dX0_ofDouble_43 : decode cX0_ofDouble 43 = .ok (.iinc 5 1, 3) := by decide +kernel
theorem dX0_ofDouble_46 : decode cX0_ofDouble 46 = .ok (.goto (-28), 3) := by decide +kernel
theorem dX0_ofDouble_49 : decode cX0_ofDouble 49 = .ok (.iconst 0, 1) := by decide +kernel
theorem dX0_ofDouble_50 : decode cX0_ofDouble 50 = .ok (.istore 5, 2) := by decide +kernel
theorem dX0_ofDouble_52 : decode cX0_ofDouble 52 = .ok (.iload 5, 2) := by decide +kernel
theorem dX0_ofDouble_54 : decode cX0_ofDouble 54 = .ok (.sipush 1100, 3) := by decide +kernel
theorem dX0_ofDouble_57 : decode cX0_ofDouble 57 = .ok (.if_icmp .ge 24, 3) := by decide +kernel
theorem dX0_ofDouble_60 : decode cX0_ofDouble 60 = .ok (.dload_n 2, 1) := by decide +kernel
theorem dX0_ofDouble_61 : decode cX0_ofDouble 61 = .ok (.dconst 1, 1) := by decide +kernel
theorem dX0_ofDouble_62 : decode cX0_ofDouble 62 = .ok (.dcmp .g, 1) := by decide +kernel
theorem dX0_ofDouble_63 : decode cX0_ofDouble 63 = .ok (.ifCond .ge 18, 3) := by decide +kernel
theorem dX0_ofDouble_66 : decode cX0_ofDouble 66 = .ok (.dload_n 2, 1) := by decide +kernel
theorem dX0_ofDouble_67 : decode cX0_ofDouble 67 = .ok (.ldc2_w 25, 3) := by decide +kernel
theorem dX0_ofDouble_70 : decode cX0_ofDouble 70 = .ok (.dmul, 1) := by decide +kernel
theorem dX0_ofDouble_71 : decode cX0_ofDouble 71 = .ok (.dstore_n 2, 1) := by decide +kernel
theorem dX0_ofDouble_72 : decode cX0_ofDouble 72 = .ok (.iinc 4 (-1), 3) := by decide +kernel
theorem dX0_ofDouble_75 : decode cX0_ofDouble 75 = .ok (.iinc 5 1, 3) := by decide +kernel
theorem dX0_ofDouble_78 : decode cX0_ofDouble 78 = .ok (.goto (-26), 3) := by decide +kernel
theorem dX0_ofDouble_81 : decode cX0_ofDouble 81 = .ok (.iload 4, 2) := by decide +kernel
theorem dX0_ofDouble_83 : decode cX0_ofDouble 83 = .ok (.i2l, 1) := by decide +kernel
theorem dX0_ofDouble_84 : decode cX0_ofDouble 84 = .ok (.bipush 52, 2) := by decide +kernel
theorem dX0_ofDouble_86 : decode cX0_ofDouble 86 = .ok (.lshl, 1) := by decide +kernel
theorem dX0_ofDouble_87 : decode cX0_ofDouble 87 = .ok (.dload_n 2, 1) := by decide +kernel
theorem dX0_ofDouble_88 : decode cX0_ofDouble 88 = .ok (.dconst 1, 1) := by decide +kernel
theorem dX0_ofDouble_89 : decode cX0_ofDouble 89 = .ok (.dsub, 1) := by decide +kernel
theorem dX0_ofDouble_90 : decode cX0_ofDouble 90 = .ok (.ldc2_w 27, 3) := by decide +kernel
theorem dX0_ofDouble_93 : decode cX0_ofDouble 93 = .ok (.dmul, 1) := by decide +kernel
theorem dX0_ofDouble_94 : decode cX0_ofDouble 94 = .ok (.d2l, 1) := by decide +kernel
theorem dX0_ofDouble_95 : decode cX0_ofDouble 95 = .ok (.ladd, 1) := by decide +kernel
theorem dX0_ofDouble_96 : decode cX0_ofDouble 96 = .ok (.lreturn, 1) := by decide +kernel
theorem dX0_ofFloat_0 : decode cX0_ofFloat 0 = .ok (.fload_n 0, 1) := by decide +kernel
theorem dX0_ofFloat_1 : decode cX0_ofFloat 1 = .ok (.f2d, 1) := by decide +kernel
theorem dX0_ofFloat_2 : decode cX0_ofFloat 2 = .ok (.invokestatic 29, 3) := by decide +kernel
theorem dX0_ofFloat_5 : decode cX0_ofFloat 5 = .ok (.lstore_n 1, 1) := by decide +kernel
theorem dX0_ofFloat_6 : decode cX0_ofFloat 6 = .ok (.lload_n 1, 1) := by decide +kernel
theorem dX0_ofFloat_7 : decode cX0_ofFloat 7 = .ok (.lconst 0, 1) := by decide +kernel
theorem dX0_ofFloat_8 : decode cX0_ofFloat 8 = .ok (.lcmp, 1) := by decide +kernel
theorem dX0_ofFloat_9 : decode cX0_ofFloat 9 = .ok (.ifCond .ne 5, 3) := by decide +kernel
theorem dX0_ofFloat_12 : decode cX0_ofFloat 12 = .ok (.iconst 0, 1) := by decide +kernel
theorem dX0_ofFloat_13 : decode cX0_ofFloat 13 = .ok (.ireturn, 1) := by decide +kernel
theorem dX0_ofFloat_14 : decode cX0_ofFloat 14 = .ok (.lload_n 1, 1) := by decide +kernel
theorem dX0_ofFloat_15 : decode cX0_ofFloat 15 = .ok (.bipush 52, 2) := by decide +kernel
theorem dX0_ofFloat_17 : decode cX0_ofFloat 17 = .ok (.lushr, 1) := by decide +kernel
theorem dX0_ofFloat_18 : decode cX0_ofFloat 18 = .ok (.l2i, 1) := by decide +kernel
theorem dX0_ofFloat_19 : decode cX0_ofFloat 19 = .ok (.sipush 1023, 3) := by decide +kernel
theorem dX0_ofFloat_22 : decode cX0_ofFloat 22 = .ok (.isub, 1) := by decide +kernel
theorem dX0_ofFloat_23 : decode cX0_ofFloat 23 = .ok (.bipush 127, 2) := by decide +kernel
theorem dX0_ofFloat_25 : decode cX0_ofFloat 25 = .ok (.iadd, 1) := by decide +kernel
theorem dX0_ofFloat_26 : decode cX0_ofFloat 26 = .ok (.istore_n 3, 1) := by decide +kernel
theorem dX0_ofFloat_27 : decode cX0_ofFloat 27 = .ok (.iload_n 3, 1) := by decide +kernel
theorem dX0_ofFloat_28 : decode cX0_ofFloat 28 = .ok (.bipush 23, 2) := by decide +kernel
theorem dX0_ofFloat_30 : decode cX0_ofFloat 30 = .ok (.ishl, 1) := by decide +kernel
theorem dX0_ofFloat_31 : decode cX0_ofFloat 31 = .ok (.lload_n 1, 1) := by decide +kernel
theorem dX0_ofFloat_32 : decode cX0_ofFloat 32 = .ok (.ldc2_w 15, 3) := by decide +kernel
theorem dX0_ofFloat_35 : decode cX0_ofFloat 35 = .ok (.land, 1) := by decide +kernel
theorem dX0_ofFloat_36 : decode cX0_ofFloat 36 = .ok (.bipush 29, 2) := by decide +kernel
theorem dX0_ofFloat_38 : decode cX0_ofFloat 38 = .ok (.lushr, 1) := by decide +kernel
theorem dX0_ofFloat_39 : decode cX0_ofFloat 39 = .ok (.l2i, 1) := by decide +kernel
theorem dX0_ofFloat_40 : decode cX0_ofFloat 40 = .ok (.iadd, 1) := by decide +kernel
theorem dX0_ofFloat_41 : decode cX0_ofFloat 41 = .ok (.ireturn, 1) := by decide +kernel
end
section
theorem dX1_init_0 : decode cX1_init 0 = .ok (.aload_n 0, 1) := by decide +kernel
theorem dX1_init_1 : decode cX1_init 1 = .ok (.invokespecial 3, 3) := by decide +kernel
theorem dX1_init_4 : decode cX1_init 4 = .ok (.aload_n 0, 1) := by decide +kernel
theorem dX1_init_5 : decode cX1_init 5 = .ok (.iconst 0, 1) := by decide +kernel
theorem dX1_init_6 : decode cX1_init 6 = .ok (.putfield 9, 3) := by decide +kernel
theorem dX1_init_9 : decode cX1_init 9 = .ok (.aload_n 0, 1) := by decide +kernel
theorem dX1_init_10 : decode cX1_init 10 = .ok (.bipush 10, 2) := by decide +kernel
theorem dX1_init_12 : decode cX1_init 12 = .ok (.putfield 15, 3) := by decide +kernel
theorem dX1_init_15 : decode cX1_init 15 = .ok (.aload_n 0, 1) := by decide +kernel
theorem dX1_init_16 : decode cX1_init 16 = .ok (.sipush 500, 3) := by decide +kernel
theorem dX1_init_19 : decode cX1_init 19 = .ok (.putfield 18, 3) := by decide +kernel
theorem dX1_init_22 : decode cX1_init 22 = .ok (.aload_n 0, 1) := by decide +kernel
theorem dX1_init_23 : decode cX1_init 23 = .ok (.iconst 0, 1) := by decide +kernel
theorem dX1_init_24 : decode cX1_init 24 = .ok (.putfield 21, 3) := by decide +kernel
theorem dX1_init_27 : decode cX1_init 27 = .ok (.aload_n 0, 1) := by decide +kernel
theorem dX1_init_28 : decode cX1_init 28 = .ok (.bipush 8, 2) := by decide +kernel
theorem dX1_init_30 : decode cX1_init 30 = .ok (.anewarray 24, 3) := by decide +kernel
theorem dX1_init_33 : decode cX1_init 33 = .ok (.putfield 26, 3) := by decide +kernel
theorem dX1_init_36 : decode cX1_init 36 = .ok (.iconst 0, 1) := by decide +kernel
theorem dX1_init_37 : decode cX1_init 37 = .ok (.istore_n 1, 1) := by decide +kernel
theorem dX1_init_38 : decode cX1_init 38 = .ok (.iload_n 1, 1) := by decide +kernel
theorem dX1_init_39 : decode cX1_init 39 = .ok (.bipush 8, 2) := by decide +kernel
theorem dX1_init_41 : decode cX1_init 41 = .ok (.if_icmp .ge 22, 3) := by decide +kernel
theorem dX1_init_44 : decode cX1_init 44 = .ok (.aload_n 0, 1) := by decide +kernel
theorem dX1_init_45 : decode cX1_init 45 = .ok (.getfield 26, 3) := by decide +kernel
theorem dX1_init_48 : decode cX1_init 48 = .ok (.iload_n 1, 1) := by decide +kernel
theorem dX1_init_49 : decode cX1_init 49 = .ok (.new 24, 3) := by decide +kernel
theorem dX1_init_52 : decode cX1_init 52 = .ok (.dup, 1) := by decide +kernel
theorem dX1_init_53 : decode cX1_init 53 = .ok (.invokespecial 30, 3) := by decide +kernel
theorem dX1_init_56 : decode cX1_init 56 = .ok (.aastore, 1) := by decide +kernel
theorem dX1_init_57 : decode cX1_init 57 = .ok (.iinc 1 1, 3) := by decide +kernel
theorem dX1_init_60 : decode cX1_init 60 = .ok (.goto (-22), 3) := by decide +kernel
theorem dX1_init_63 : decode cX1_init 63 = .ok (.return_, 1) := by decide +kernel
theorem dX1_copyFrom_0 : decode cX1_copyFrom 0 = .ok (.aload_n 0, 1) := by decide +kernel
theorem dX1_copyFrom_1 : decode cX1_copyFrom 1 = .ok (.aload_n 1, 1) := by decide +kernel
theorem dX1_copyFrom_2 : decode cX1_copyFrom 2 = .ok (.getfield 9, 3) := by decide +kernel
theorem dX1_copyFrom_5 : decode cX1_copyFrom 5 = .ok (.putfield 9, 3) := by decide +kernel
theorem dX1_copyFrom_8 : decode cX1_copyFrom 8 = .ok (.aload_n 0, 1) := by decide +kernel
theorem dX1_copyFrom_9 : decode cX1_copyFrom 9 = .ok (.aload_n 1, 1) := by decide +kernel
theorem dX1_copyFrom_10 : decode cX1_copyFrom 10 = .ok (.getfield 15, 3) := by decide +kernel
theorem dX1_copyFrom_13 : decode cX1_copyFrom 13 = .ok (.putfield 15, 3) := by decide +kernel
theorem dX1_copyFrom_16 : decode cX1_copyFrom 16 = .ok (.aload_n 0, 1) := by decide +kernel
theorem dX1_copyFrom_17 : decode cX1_copyFrom 17 = .ok (.aload_n 1, 1) := by decide +kernel
theorem dX1_copyFrom_18 : decode cX1_copyFrom 18 = .ok (.getfield 18, 3) := by decide +kernel
theorem dX1_copyFrom_21 : decode cX1_copyFrom 21 = .ok (.putfield 18, 3) := by decide +kernel
theorem dX1_copyFrom_24 : decode cX1_copyFrom 24 = .ok (.aload_n 0, 1) := by decide +kernel
theorem dX1_copyFrom_25 : decode cX1_copyFrom 25 = .ok (.aload_n 1, 1) := by decide +kernel
theorem dX1_copyFrom_26 : decode cX1_copyFrom 26 = .ok (.getfield 21, 3) := by decide +kernel
theorem dX1_copyFrom_29 : decode cX1_copyFrom 29 = .ok (.putfield 21, 3) := by decide +kernel
theorem dX1_copyFrom_32 : decode cX1_copyFrom 32 = .ok (.iconst 0, 1) := by decide +kernel
theorem dX1_copyFrom_33 : decode cX1_copyFrom 33 = .ok (.istore_n 2, 1) := by decide +kernel
theorem dX1_copyFrom_34 : decode cX1_copyFrom 34 = .ok (.iload_n 2, 1) := by decide +kernel
theorem dX1_copyFrom_35 : decode cX1_copyFrom 35 = .ok (.aload_n 0, 1) := by decide +kernel
theorem dX1_copyFrom_36 : decode cX1_copyFrom 36 = .ok (.getfield 21, 3) := by decide +kernel
theorem dX1_copyFrom_39 : decode cX1_copyFrom 39 = .ok (.if_icmp .ge 24, 3) := by decide +kernel
theorem dX1_copyFrom_42 : decode cX1_copyFrom 42 = .ok (.aload_n 0, 1) := by decide +kernel
theorem dX1_copyFrom_43 : decode cX1_copyFrom 43 = .ok (.getfield 26, 3) := by decide +kernel
theorem dX1_copyFrom_46 : decode cX1_copyFrom 46 = .ok (.iload_n 2, 1) := by decide +kernel
theorem dX1_copyFrom_47 : decode cX1_copyFrom 47 = .ok (.aaload, 1) := by decide +kernel
theorem dX1_copyFrom_48 : decode cX1_copyFrom 48 = .ok (.aload_n 1, 1) := by decide +kernel
theorem dX1_copyFrom_49 : decode cX1_copyFrom 49 = .ok (.getfield 26, 3) := by decide +kernel
theorem dX1_copyFrom_52 : decode cX1_copyFrom 52 = .ok (.iload_n 2, 1) := by decide +kernel
theorem dX1_copyFrom_53 : decode cX1_copyFrom 53 = .ok (.aaload, 1) := by decide +kernel
theorem dX1_copyFrom_54 : decode cX1_copyFrom 54 = .ok (.invokevirtual 31, 3) := by decide +kernel
theorem dX1_copyFrom_57 : decode cX1_copyFrom 57 = .ok (.iinc 2 1, 3) := by decide +kernel
theorem dX1_copyFrom_60 : decode cX1_copyFrom 60 = .ok (.goto (-26), 3) := by decide +kernel
theorem dX1_copyFrom_63 : decode cX1_copyFrom 63 = .ok (.return_, 1) := by decide +kernel
theorem dX1_has_0 : decode cX1_has 0 = .ok (.iload_n 1, 1) := by decide +kernel
theorem dX1_has_1 : decode cX1_has 1 = .ok (.ifCond .lt 15, 3) := by decide +kernel
theorem dX1_has_4 : decode cX1_has 4 = .ok (.iload_n 1, 1) := by decide +kernel
theorem dX1_has_5 : decode cX1_has 5 = .ok (.aload_n 0, 1) := by decide +kernel
theorem dX1_has_6 : decode cX1_has 6 = .ok (.getfield 21, 3) := by decide +kernel
theorem dX1_has_9 : decode cX1_has 9 = .ok (.if_icmp .ge 7, 3) := by decide +kernel
theorem dX1_has_12 : decode cX1_has 12 = .ok (.iconst 1, 1) := by decide +kernel
theorem dX1_has_13 : decode cX1_has 13 = .ok (.goto 4, 3) := by decide +kernel
theorem dX1_has_16 : decode cX1_has 16 = .ok (.iconst 0, 1) := by decide +kernel
theorem dX1_has_17 : decode cX1_has 17 = .ok (.ireturn, 1) := by decide +kernel
theorem dX1_lend_0 : decode cX1_lend 0 = .ok (.lload_n 1, 1) := by decide +kernel
theorem dX1_lend_1 : decode cX1_lend 1 = .ok (.lconst 1, 1) := by decide +kernel
theorem dX1_lend_2 : decode cX1_lend 2 = .ok (.lcmp, 1) := by decide +kernel
theorem dX1_lend_3 : decode cX1_lend 3 = .ok (.ifCond .lt 28, 3) := by decide +kernel
theorem dX1_lend_6 : decode cX1_lend 6 = .ok (.lload_n 1, 1) := by decide +kernel
theorem dX1_lend_7 : decode cX1_lend 7 = .ok (.ldc2_w 35, 3) := by decide +kernel
theorem dX1_lend_10 : decode cX1_lend 10 = .ok (.lcmp, 1) := by decide +kernel
theorem dX1_lend_11 : decode cX1_lend 11 = .ok (.ifCond .gt 20, 3) := by decide +kernel
theorem dX1_lend_14 : decode cX1_lend 14 = .ok (.iload_n 3, 1) := by decide +kernel
theorem dX1_lend_15 : decode cX1_lend 15 = .ok (.invokestatic 37, 3) := by decide +kernel
theorem dX1_lend_18 : decode cX1_lend 18 = .ok (.ifCond .eq 13, 3) := by decide +kernel
theorem dX1_lend_21 : decode cX1_lend 21 = .ok (.iload 4, 2) := by decide +kernel
theorem dX1_lend_23 : decode cX1_lend 23 = .ok (.iconst 0, 1) := by decide +kernel
theorem dX1_lend_24 : decode cX1_lend 24 = .ok (.iconst 3, 1) := by decide +kernel
theorem dX1_lend_25 : decode cX1_lend 25 = .ok (.invokestatic 41, 3) := by decide +kernel
theorem dX1_lend_28 : decode cX1_lend 28 = .ok (.ifCond .ne 5, 3) := by decide +kernel
theorem dX1_lend_31 : decode cX1_lend 31 = .ok (.iconst (-1), 1) := by decide +kernel
theorem dX1_lend_32 : decode cX1_lend 32 = .ok (.ireturn, 1) := by decide +kernel
theorem dX1_lend_33 : decode cX1_lend 33 = .ok (.iload 5, 2) := by decide +kernel
theorem dX1_lend_35 : decode cX1_lend 35 = .ok (.iconst 0, 1) := by decide +kernel
theorem dX1_lend_36 : decode cX1_lend 36 = .ok (.iconst 2, 1) := by decide +kernel
theorem dX1_lend_37 : decode cX1_lend 37 = .ok (.invokestatic 41, 3) := by decide +kernel
theorem dX1_lend_40 : decode cX1_lend 40 = .ok (.ifCond .eq 24, 3) := by decide +kernel
theorem dX1_lend_43 : decode cX1_lend 43 = .ok (.iload 6, 2) := by decide +kernel
theorem dX1_lend_45 : decode cX1_lend 45 = .ok (.iconst 0, 1) := by decide +kernel
theorem dX1_lend_46 : decode cX1_lend 46 = .ok (.iconst 1, 1) := by decide +kernel
theorem dX1_lend_47 : decode cX1_lend 47 = .ok (.invokestatic 41, 3) := by decide +kernel
theorem dX1_lend_50 : decode cX1_lend 50 = .ok (.ifCond .eq 14, 3) := by decide +kernel
theorem dX1_lend_53 : decode cX1_lend 53 = .ok (.iload 7, 2) := by decide +kernel
theorem dX1_lend_55 : decode cX1_lend 55 = .ok (.iconst 1, 1) := by decide +kernel
theorem dX1_lend_56 : decode cX1_lend 56 = .ok (.bipush 60, 2) := by decide +kernel
theorem dX1_lend_58 : decode cX1_lend 58 = .ok (.invokestatic 41, 3) := by decide +kernel
theorem dX1_lend_61 : decode cX1_lend 61 = .ok (.ifCond .ne 5, 3) := by decide +kernel
theorem dX1_lend_64 : decode cX1_lend 64 = .ok (.iconst (-1), 1) := by decide +kernel
theorem dX1_lend_65 : decode cX1_lend 65 = .ok (.ireturn, 1) := by decide +kernel
theorem dX1_lend_66 : decode cX1_lend 66 = .ok (.aload_n 0, 1) := by decide +kernel
theorem dX1_lend_67 : decode cX1_lend 67 = .ok (.getfield 9, 3) := by decide +kernel
theorem dX1_lend_70 : decode cX1_lend 70 = .ok (.invokestatic 45, 3) := by decide +kernel
theorem dX1_lend_73 : decode cX1_lend 73 = .ok (.iload 7, 2) := by decide +kernel
theorem dX1_lend_75 : decode cX1_lend 75 = .ok (.iadd, 1) := by decide +kernel
theorem dX1_lend_76 : decode cX1_lend 76 = .ok (.invokestatic 51, 3) := by decide +kernel
theorem dX1_lend_79 : decode cX1_lend 79 = .ok (.ldc 54, 2) := by decide +kernel
theorem dX1_lend_81 : decode cX1_lend 81 = .ok (.if_icmp .le 6, 3) := by decide +kernel
theorem dX1_lend_84 : decode cX1_lend 84 = .ok (.bipush (-5), 2) := by decide +kernel
theorem dX1_lend_86 : decode cX1_lend 86 = .ok (.ireturn, 1) := by decide +kernel
theorem dX1_lend_87 : decode cX1_lend 87 = .ok (.aload_n 0, 1) := by decide +kernel
theorem dX1_lend_88 : decode cX1_lend 88 = .ok (.getfield 21, 3) := by decide +kernel
theorem dX1_lend_91 : decode cX1_lend 91 = .ok (.bipush 8, 2) := by decide +kernel
theorem dX1_lend_93 : decode cX1_lend 93 = .ok (.if_icmp .lt 6, 3) := by decide +kernel
theorem dX1_lend_96 : decode cX1_lend 96 = .ok (.bipush (-3), 2) := by decide +kernel
theorem dX1_lend_98 : decode cX1_lend 98 = .ok (.ireturn, 1) := by decide +kernel
theorem dX1_lend_99 : decode cX1_lend 99 = .ok (.aload_n 0, 1) := by decide +kernel
theorem dX1_lend_100 : decode cX1_lend 100 = .ok (.getfield 26, 3) := by decide +kernel
theorem dX1_lend_103 : decode cX1_lend 103 = .ok (.aload_n 0, 1) := by decide +kernel
theorem dX1_lend_104 : decode cX1_lend 104 = .ok (.getfield 21, 3) := by decide +kernel
theorem dX1_lend_107 : decode cX1_lend 107 = .ok (.aaload, 1) := by decide +kernel
theorem dX1_lend_108 : decode cX1_lend 108 = .ok (.astore 8, 2) := by decide +kernel
theorem dX1_lend_110 : decode cX1_lend 110 = .ok (.aload 8, 2) := by decide +kernel
theorem dX1_lend_112 : decode cX1_lend 112 = .ok (.invokevirtual 55, 3) := by decide +kernel
theorem dX1_lend_115 : decode cX1_lend 115 = .ok (.aload 8, 2) := by decide +kernel
theorem dX1_lend_117 : decode cX1_lend 117 = .ok (.lload_n 1, 1) := by decide +kernel
theorem dX1_lend_118 : decode cX1_lend 118 = .ok (.putfield 58, 3) := by decide +kernel
theorem dX1_lend_121 : decode cX1_lend 121 = .ok (.aload 8, 2) := by decide +kernel
theorem dX1_lend_123 : decode cX1_lend 123 = .ok (.lload_n 1, 1) := by decide +kernel
theorem dX1_lend_124 : decode cX1_lend 124 = .ok (.putfield 62, 3) := by decide +kernel
theorem dX1_lend_127 : decode cX1_lend 127 = .ok (.aload 8, 2) := by decide +kernel
theorem dX1_lend_129 : decode cX1_lend 129 = .ok (.iload_n 3, 1) := by decide +kernel
theorem dX1_lend_130 : decode cX1_lend 130 = .ok (.putfield 65, 3) := by decide +kernel
theorem dX1_lend_133 : decode cX1_lend 133 = .ok (.aload 8, 2) := by decide +kernel
theorem dX1_lend_135 : decode cX1_lend 135 = .ok (.iload 4, 2) := by decide +kernel
theorem dX1_lend_137 : decode cX1_lend 137 = .ok (.putfield 68, 3) := by decide +kernel
theorem dX1_lend_140 : decode cX1_lend 140 = .ok (.aload 8, 2) := by decide +kernel
theorem dX1_lend_142 : decode cX1_lend 142 = .ok (.iload 5, 2) := by decide +kernel
theorem dX1_lend_144 : decode cX1_lend 144 = .ok (.putfield 71, 3) := by decide +kernel
theorem dX1_lend_147 : decode cX1_lend 147 = .ok (.aload 8, 2) := by decide +kernel
theorem dX1_lend_149 : decode cX1_lend 149 = .ok (.iload 6, 2) := by decide +kernel
theorem dX1_lend_151 : decode cX1_lend 151 = .ok (.putfield 74, 3) := by decide +kernel
theorem dX1_lend_154 : decode cX1_lend 154 = .ok (.aload 8, 2) := by decide +kernel
theorem dX1_lend_156 : decode cX1_lend 156 = .ok (.iload 7, 2) := by decide +kernel
theorem dX1_lend_158 : decode cX1_lend 158 = .ok (.putfield 77, 3) := by decide +kernel
theorem dX1_lend_161 : decode cX1_lend 161 = .ok (.aload 8, 2) := by decide +kernel
theorem dX1_lend_163 : decode cX1_lend 163 = .ok (.aload_n 0, 1) := by decide +kernel
theorem dX1_lend_164 : decode cX1_lend 164 = .ok (.getfield 9, 3) := by decide +kernel
theorem dX1_lend_167 : decode cX1_lend 167 = .ok (.invokevirtual 80, 3) := by decide +kernel
theorem dX1_lend_170 : decode cX1_lend 170 = .ok (.aload 8, 2) := by decide +kernel
theorem dX1_lend_172 : decode cX1_lend 172 = .ok (.invokevirtual 84, 3) := by decide +kernel
theorem dX1_lend_175 : decode cX1_lend 175 = .ok (.aload_n 0, 1) := by decide +kernel
theorem dX1_lend_176 : decode cX1_lend 176 = .ok (.dup, 1) := by decide +kernel
theorem dX1_lend_177 : decode cX1_lend 177 = .ok (.getfield 21, 3) := by decide +kernel
theorem dX1_lend_180 : decode cX1_lend 180 = .ok (.iconst 1, 1) := by decide +kernel
theorem dX1_lend_181 : decode cX1_lend 181 = .ok (.iadd, 1) := by decide +kernel
theorem dX1_lend_182 : decode cX1_lend 182 = .ok (.putfield 21, 3) := by decide +kernel
theorem dX1_lend_185 : decode cX1_lend 185 = .ok (.aload_n 0, 1) := by decide +kernel
theorem dX1_lend_186 : decode cX1_lend 186 = .ok (.getfield 21, 3) := by decide +kernel
theorem dX1_lend_189 : decode cX1_lend 189 = .ok (.iconst 1, 1) := by decide +kernel
theorem dX1_lend_190 : decode cX1_lend 190 = .ok (.isub, 1) := by decide +kernel
theorem dX1_lend_191 : decode cX1_lend 191 = .ok (.ireturn, 1) := by decide +kernel
theorem dX1_passDays_0 : decode cX1_passDays 0 = .ok (.iconst 0, 1) := by decide +kernel
theorem dX1_passDays_1 : decode cX1_passDays 1 = .ok (.istore_n 2, 1) := by decide +kernel
theorem dX1_passDays_2 : decode cX1_passDays 2 = .ok (.iconst 0, 1) := by decide +kernel
theorem dX1_passDays_3 : decode cX1_passDays 3 = .ok (.istore_n 3, 1) := by decide +kernel
theorem dX1_passDays_4 : decode cX1_passDays 4 = .ok (.iload_n 3, 1) := by decide +kernel
theorem dX1_passDays_5 : decode cX1_passDays 5 = .ok (.aload_n 0, 1) := by decide +kernel
theorem dX1_passDays_6 : decode cX1_passDays 6 = .ok (.getfield 21, 3) := by decide +kernel
theorem dX1_passDays_9 : decode cX1_passDays 9 = .ok (.if_icmp .ge 56, 3) := by decide +kernel
theorem dX1_passDays_12 : decode cX1_passDays 12 = .ok (.iload_n 2, 1) := by decide +kernel
theorem dX1_passDays_13 : decode cX1_passDays 13 = .ok (.aload_n 0, 1) := by decide +kernel
theorem dX1_passDays_14 : decode cX1_passDays 14 = .ok (.getfield 26, 3) := by decide +kernel
theorem dX1_passDays_17 : decode cX1_passDays 17 = .ok (.iload_n 3, 1) := by decide +kernel
theorem dX1_passDays_18 : decode cX1_passDays 18 = .ok (.aaload, 1) := by decide +kernel
theorem dX1_passDays_19 : decode cX1_passDays 19 = .ok (.aload_n 0, 1) := by decide +kernel
theorem dX1_passDays_20 : decode cX1_passDays 20 = .ok (.getfield 9, 3) := by decide +kernel
theorem dX1_passDays_23 : decode cX1_passDays 23 = .ok (.iload_n 1, 1) := by decide +kernel
theorem dX1_passDays_24 : decode cX1_passDays 24 = .ok (.iadd, 1) := by decide +kernel
theorem dX1_passDays_25 : decode cX1_passDays 25 = .ok (.invokevirtual 87, 3) := by decide +kernel
theorem dX1_passDays_28 : decode cX1_passDays 28 = .ok (.iadd, 1) := by decide +kernel
theorem dX1_passDays_29 : decode cX1_passDays 29 = .ok (.istore_n 2, 1) := by decide +kernel
theorem dX1_passDays_30 : decode cX1_passDays 30 = .ok (.aload_n 0, 1) := by decide +kernel
theorem dX1_passDays_31 : decode cX1_passDays 31 = .ok (.getfield 26, 3) := by decide +kernel
theorem dX1_passDays_34 : decode cX1_passDays 34 = .ok (.iload_n 3, 1) := by decide +kernel
theorem dX1_passDays_35 : decode cX1_passDays 35 = .ok (.aaload, 1) := by decide +kernel
theorem dX1_passDays_36 : decode cX1_passDays 36 = .ok (.aload_n 0, 1) := by decide +kernel
theorem dX1_passDays_37 : decode cX1_passDays 37 = .ok (.getfield 9, 3) := by decide +kernel
theorem dX1_passDays_40 : decode cX1_passDays 40 = .ok (.iconst 1, 1) := by decide +kernel
theorem dX1_passDays_41 : decode cX1_passDays 41 = .ok (.iadd, 1) := by decide +kernel
theorem dX1_passDays_42 : decode cX1_passDays 42 = .ok (.aload_n 0, 1) := by decide +kernel
theorem dX1_passDays_43 : decode cX1_passDays 43 = .ok (.getfield 9, 3) := by decide +kernel
theorem dX1_passDays_46 : decode cX1_passDays 46 = .ok (.iload_n 1, 1) := by decide +kernel
theorem dX1_passDays_47 : decode cX1_passDays 47 = .ok (.iadd, 1) := by decide +kernel
theorem dX1_passDays_48 : decode cX1_passDays 48 = .ok (.aload_n 0, 1) := by decide +kernel
theorem dX1_passDays_49 : decode cX1_passDays 49 = .ok (.getfield 15, 3) := by decide +kernel
theorem dX1_passDays_52 : decode cX1_passDays 52 = .ok (.aload_n 0, 1) := by decide +kernel
theorem dX1_passDays_53 : decode cX1_passDays 53 = .ok (.getfield 18, 3) := by decide +kernel
theorem dX1_passDays_56 : decode cX1_passDays 56 = .ok (.invokevirtual 90, 3) := by decide +kernel
theorem dX1_passDays_59 : decode cX1_passDays 59 = .ok (.iinc 3 1, 3) := by decide +kernel
theorem dX1_passDays_62 : decode cX1_passDays 62 = .ok (.goto (-58), 3) := by decide +kernel
theorem dX1_passDays_65 : decode cX1_passDays 65 = .ok (.aload_n 0, 1) := by decide +kernel
theorem dX1_passDays_66 : decode cX1_passDays 66 = .ok (.dup, 1) := by decide +kernel
theorem dX1_passDays_67 : decode cX1_passDays 67 = .ok (.getfield 9, 3) := by decide +kernel
theorem dX1_passDays_70 : decode cX1_passDays 70 = .ok (.iload_n 1, 1) := by decide +kernel
theorem dX1_passDays_71 : decode cX1_passDays 71 = .ok (.iadd, 1) := by decide +kernel
theorem dX1_passDays_72 : decode cX1_passDays 72 = .ok (.putfield 9, 3) := by decide +kernel
theorem dX1_passDays_75 : decode cX1_passDays 75 = .ok (.iload_n 2, 1) := by decide +kernel
theorem dX1_passDays_76 : decode cX1_passDays 76 = .ok (.ireturn, 1) := by decide +kernel
theorem dX1_billsInArrears_0 : decode cX1_billsInArrears 0 = .ok (.iconst 0, 1) := by decide +kernel
theorem dX1_billsInArrears_1 : decode cX1_billsInArrears 1 = .ok (.istore_n 1, 1) := by decide +kernel
theorem dX1_billsInArrears_2 : decode cX1_billsInArrears 2 = .ok (.iconst 0, 1) := by decide +kernel
theorem dX1_billsInArrears_3 : decode cX1_billsInArrears 3 = .ok (.istore_n 2, 1) := by decide +kernel
theorem dX1_billsInArrears_4 : decode cX1_billsInArrears 4 = .ok (.iload_n 2, 1) := by decide +kernel
theorem dX1_billsInArrears_5 : decode cX1_billsInArrears 5 = .ok (.aload_n 0, 1) := by decide +kernel
theorem dX1_billsInArrears_6 : decode cX1_billsInArrears 6 = .ok (.getfield 21, 3) := by decide +kernel
theorem dX1_billsInArrears_9 : decode cX1_billsInArrears 9 = .ok (.if_icmp .ge 21, 3) := by decide +kernel
theorem dX1_billsInArrears_12 : decode cX1_billsInArrears 12 = .ok (.iload_n 1, 1) := by decide +kernel
theorem dX1_billsInArrears_13 : decode cX1_billsInArrears 13 = .ok (.aload_n 0, 1) := by decide +kernel
theorem dX1_billsInArrears_14 : decode cX1_billsInArrears 14 = .ok (.getfield 26, 3) := by decide +kernel
theorem dX1_billsInArrears_17 : decode cX1_billsInArrears 17 = .ok (.iload_n 2, 1) := by decide +kernel
theorem dX1_billsInArrears_18 : decode cX1_billsInArrears 18 = .ok (.aaload, 1) := by decide +kernel
theorem dX1_billsInArrears_19 : decode cX1_billsInArrears 19 = .ok (.invokevirtual 94, 3) := by decide +kernel
theorem dX1_billsInArrears_22 : decode cX1_billsInArrears 22 = .ok (.iadd, 1) := by decide +kernel
theorem dX1_billsInArrears_23 : decode cX1_billsInArrears 23 = .ok (.istore_n 1, 1) := by decide +kernel
theorem dX1_billsInArrears_24 : decode cX1_billsInArrears 24 = .ok (.iinc 2 1, 3) := by decide +kernel
theorem dX1_billsInArrears_27 : decode cX1_billsInArrears 27 = .ok (.goto (-23), 3) := by decide +kernel
theorem dX1_billsInArrears_30 : decode cX1_billsInArrears 30 = .ok (.iload_n 1, 1) := by decide +kernel
theorem dX1_billsInArrears_31 : decode cX1_billsInArrears 31 = .ok (.ireturn, 1) := by decide +kernel
theorem dX1_settledLoans_0 : decode cX1_settledLoans 0 = .ok (.iconst 0, 1) := by decide +kernel
theorem dX1_settledLoans_1 : decode cX1_settledLoans 1 = .ok (.istore_n 1, 1) := by decide +kernel
theorem dX1_settledLoans_2 : decode cX1_settledLoans 2 = .ok (.iconst 0, 1) := by decide +kernel
theorem dX1_settledLoans_3 : decode cX1_settledLoans 3 = .ok (.istore_n 2, 1) := by decide +kernel
theorem dX1_settledLoans_4 : decode cX1_settledLoans 4 = .ok (.iload_n 2, 1) := by decide +kernel
theorem dX1_settledLoans_5 : decode cX1_settledLoans 5 = .ok (.aload_n 0, 1) := by decide +kernel
theorem dX1_settledLoans_6 : decode cX1_settledLoans 6 = .ok (.getfield 21, 3) := by decide +kernel
theorem dX1_settledLoans_9 : decode cX1_settledLoans 9 = .ok (.if_icmp .ge 24, 3) := by decide +kernel
theorem dX1_settledLoans_12 : decode cX1_settledLoans 12 = .ok (.aload_n 0, 1) := by decide +kernel
theorem dX1_settledLoans_13 : decode cX1_settledLoans 13 = .ok (.getfield 26, 3) := by decide +kernel
theorem dX1_settledLoans_16 : decode cX1_settledLoans 16 = .ok (.iload_n 2, 1) := by decide +kernel
theorem dX1_settledLoans_17 : decode cX1_settledLoans 17 = .ok (.aaload, 1) := by decide +kernel
theorem dX1_settledLoans_18 : decode cX1_settledLoans 18 = .ok (.invokevirtual 98, 3) := by decide +kernel
theorem dX1_settledLoans_21 : decode cX1_settledLoans 21 = .ok (.ifCond .eq 6, 3) := by decide +kernel
theorem dX1_settledLoans_24 : decode cX1_settledLoans 24 = .ok (.iinc 1 1, 3) := by decide +kernel
theorem dX1_settledLoans_27 : decode cX1_settledLoans 27 = .ok (.iinc 2 1, 3) := by decide +kernel
theorem dX1_settledLoans_30 : decode cX1_settledLoans 30 = .ok (.goto (-26), 3) := by decide +kernel
theorem dX1_settledLoans_33 : decode cX1_settledLoans 33 = .ok (.iload_n 1, 1) := by decide +kernel
theorem dX1_settledLoans_34 : decode cX1_settledLoans 34 = .ok (.ireturn, 1) := by decide +kernel
end
section
theorem dX2_firstOf_0 : decode cX2_firstOf 0 = .ok (.iload_n 0, 1) := by decide +kernel
theorem dX2_firstOf_1 : decode cX2_firstOf 1 = .ok (.bipush 12, 2) := by decide +kernel
theorem dX2_firstOf_3 : decode cX2_firstOf 3 = .ok (.idiv, 1) := by decide +kernel
theorem dX2_firstOf_4 : decode cX2_firstOf 4 = .ok (.istore_n 1, 1) := by decide +kernel
theorem dX2_firstOf_5 : decode cX2_firstOf 5 = .ok (.iload_n 1, 1) := by decide +kernel
theorem dX2_firstOf_6 : decode cX2_firstOf 6 = .ok (.iconst 3, 1) := by decide +kernel
theorem dX2_firstOf_7 : decode cX2_firstOf 7 = .ok (.iadd, 1) := by decide +kernel
theorem dX2_firstOf_8 : decode cX2_firstOf 8 = .ok (.iconst 4, 1) := by decide +kernel
theorem dX2_firstOf_9 : decode cX2_firstOf 9 = .ok (.idiv, 1) := by decide +kernel
theorem dX2_firstOf_10 : decode cX2_firstOf 10 = .ok (.istore_n 2, 1) := by decide +kernel
theorem dX2_firstOf_11 : decode cX2_firstOf 11 = .ok (.iload_n 1, 1) := by decide +kernel
theorem dX2_firstOf_12 : decode cX2_firstOf 12 = .ok (.iconst 4, 1) := by decide +kernel
theorem dX2_firstOf_13 : decode cX2_firstOf 13 = .ok (.irem, 1) := by decide +kernel
theorem dX2_firstOf_14 : decode cX2_firstOf 14 = .ok (.ifCond .ne 14, 3) := by decide +kernel
theorem dX2_firstOf_17 : decode cX2_firstOf 17 = .ok (.iload_n 0, 1) := by decide +kernel
theorem dX2_firstOf_18 : decode cX2_firstOf 18 = .ok (.bipush 12, 2) := by decide +kernel
theorem dX2_firstOf_20 : decode cX2_firstOf 20 = .ok (.irem, 1) := by decide +kernel
theorem dX2_firstOf_21 : decode cX2_firstOf 21 = .ok (.iconst 2, 1) := by decide +kernel
theorem dX2_firstOf_22 : decode cX2_firstOf 22 = .ok (.if_icmp .lt 6, 3) := by decide +kernel
theorem dX2_firstOf_25 : decode cX2_firstOf 25 = .ok (.iinc 2 1, 3) := by decide +kernel
theorem dX2_firstOf_28 : decode cX2_firstOf 28 = .ok (.iload_n 1, 1) := by decide +kernel
theorem dX2_firstOf_29 : decode cX2_firstOf 29 = .ok (.sipush 365, 3) := by decide +kernel
theorem dX2_firstOf_32 : decode cX2_firstOf 32 = .ok (.imul, 1) := by decide +kernel
theorem dX2_firstOf_33 : decode cX2_firstOf 33 = .ok (.iload_n 2, 1) := by decide +kernel
theorem dX2_firstOf_34 : decode cX2_firstOf 34 = .ok (.iadd, 1) := by decide +kernel
theorem dX2_firstOf_35 : decode cX2_firstOf 35 = .ok (.getstatic 9, 3) := by decide +kernel
theorem dX2_firstOf_38 : decode cX2_firstOf 38 = .ok (.iload_n 0, 1) := by decide +kernel
theorem dX2_firstOf_39 : decode cX2_firstOf 39 = .ok (.bipush 12, 2) := by decide +kernel
theorem dX2_firstOf_41 : decode cX2_firstOf 41 = .ok (.invokestatic 13, 3) := by decide +kernel
theorem dX2_firstOf_44 : decode cX2_firstOf 44 = .ok (.iaload, 1) := by decide +kernel
theorem dX2_firstOf_45 : decode cX2_firstOf 45 = .ok (.iadd, 1) := by decide +kernel
theorem dX2_firstOf_46 : decode cX2_firstOf 46 = .ok (.ireturn, 1) := by decide +kernel
theorem dX2_lengthOf_0 : decode cX2_lengthOf 0 = .ok (.iload_n 0, 1) := by decide +kernel
theorem dX2_lengthOf_1 : decode cX2_lengthOf 1 = .ok (.iconst 1, 1) := by decide +kernel
theorem dX2_lengthOf_2 : decode cX2_lengthOf 2 = .ok (.iadd, 1) := by decide +kernel
theorem dX2_lengthOf_3 : decode cX2_lengthOf 3 = .ok (.invokestatic 19, 3) := by decide +kernel
theorem dX2_lengthOf_6 : decode cX2_lengthOf 6 = .ok (.iload_n 0, 1) := by decide +kernel
theorem dX2_lengthOf_7 : decode cX2_lengthOf 7 = .ok (.invokestatic 19, 3) := by decide +kernel
theorem dX2_lengthOf_10 : decode cX2_lengthOf 10 = .ok (.isub, 1) := by decide +kernel
theorem dX2_lengthOf_11 : decode cX2_lengthOf 11 = .ok (.ireturn, 1) := by decide +kernel
theorem dX2_monthOf_0 : decode cX2_monthOf 0 = .ok (.iload_n 0, 1) := by decide +kernel
theorem dX2_monthOf_1 : decode cX2_monthOf 1 = .ok (.sipush 1461, 3) := by decide +kernel
theorem dX2_monthOf_4 : decode cX2_monthOf 4 = .ok (.idiv, 1) := by decide +kernel
theorem dX2_monthOf_5 : decode cX2_monthOf 5 = .ok (.iconst 4, 1) := by decide +kernel
theorem dX2_monthOf_6 : decode cX2_monthOf 6 = .ok (.imul, 1) := by decide +kernel
theorem dX2_monthOf_7 : decode cX2_monthOf 7 = .ok (.istore_n 1, 1) := by decide +kernel
theorem dX2_monthOf_8 : decode cX2_monthOf 8 = .ok (.iload_n 0, 1) := by decide +kernel
theorem dX2_monthOf_9 : decode cX2_monthOf 9 = .ok (.sipush 1461, 3) := by decide +kernel
theorem dX2_monthOf_12 : decode cX2_monthOf 12 = .ok (.irem, 1) := by decide +kernel
theorem dX2_monthOf_13 : decode cX2_monthOf 13 = .ok (.istore_n 2, 1) := by decide +kernel
theorem dX2_monthOf_14 : decode cX2_monthOf 14 = .ok (.iconst 1, 1) := by decide +kernel
theorem dX2_monthOf_15 : decode cX2_monthOf 15 = .ok (.istore_n 3, 1) := by decide +kernel
theorem dX2_monthOf_16 : decode cX2_monthOf 16 = .ok (.iload_n 2, 1) := by decide +kernel
theorem dX2_monthOf_17 : decode cX2_monthOf 17 = .ok (.sipush 366, 3) := by decide +kernel
theorem dX2_monthOf_20 : decode cX2_monthOf 20 = .ok (.if_icmp .lt 29, 3) := by decide +kernel
theorem dX2_monthOf_23 : decode cX2_monthOf 23 = .ok (.iload_n 1, 1) := by decide +kernel
theorem dX2_monthOf_24 : decode cX2_monthOf 24 = .ok (.iconst 1, 1) := by decide +kernel
theorem dX2_monthOf_25 : decode cX2_monthOf 25 = .ok (.iload_n 2, 1) := by decide +kernel
theorem dX2_monthOf_26 : decode cX2_monthOf 26 = .ok (.sipush 366, 3) := by decide +kernel
theorem dX2_monthOf_29 : decode cX2_monthOf 29 = .ok (.isub, 1) := by decide +kernel
theorem dX2_monthOf_30 : decode cX2_monthOf 30 = .ok (.sipush 365, 3) := by decide +kernel
theorem dX2_monthOf_33 : decode cX2_monthOf 33 = .ok (.idiv, 1) := by decide +kernel
theorem dX2_monthOf_34 : decode cX2_monthOf 34 = .ok (.iadd, 1) := by decide +kernel
theorem dX2_monthOf_35 : decode cX2_monthOf 35 = .ok (.iadd, 1) := by decide +kernel
theorem dX2_monthOf_36 : decode cX2_monthOf 36 = .ok (.istore_n 1, 1) := by decide +kernel
theorem dX2_monthOf_37 : decode cX2_monthOf 37 = .ok (.iload_n 2, 1) := by decide +kernel
theorem dX2_monthOf_38 : decode cX2_monthOf 38 = .ok (.sipush 366, 3) := by decide +kernel
theorem dX2_monthOf_41 : decode cX2_monthOf 41 = .ok (.isub, 1) := by decide +kernel
theorem dX2_monthOf_42 : decode cX2_monthOf 42 = .ok (.sipush 365, 3) := by decide +kernel
theorem dX2_monthOf_45 : decode cX2_monthOf 45 = .ok (.irem, 1) := by decide +kernel
theorem dX2_monthOf_46 : decode cX2_monthOf 46 = .ok (.istore_n 2, 1) := by decide +kernel
theorem dX2_monthOf_47 : decode cX2_monthOf 47 = .ok (.iconst 0, 1) := by decide +kernel
theorem dX2_monthOf_48 : decode cX2_monthOf 48 = .ok (.istore_n 3, 1) := by decide +kernel
theorem dX2_monthOf_49 : decode cX2_monthOf 49 = .ok (.bipush 11, 2) := by decide +kernel
theorem dX2_monthOf_51 : decode cX2_monthOf 51 = .ok (.istore 4, 2) := by decide +kernel
theorem dX2_monthOf_53 : decode cX2_monthOf 53 = .ok (.iload 4, 2) := by decide +kernel
theorem dX2_monthOf_55 : decode cX2_monthOf 55 = .ok (.ifCond .le 39, 3) := by decide +kernel
theorem dX2_monthOf_58 : decode cX2_monthOf 58 = .ok (.iload_n 2, 1) := by decide +kernel
theorem dX2_monthOf_59 : decode cX2_monthOf 59 = .ok (.getstatic 9, 3) := by decide +kernel
theorem dX2_monthOf_62 : decode cX2_monthOf 62 = .ok (.iload 4, 2) := by decide +kernel
theorem dX2_monthOf_64 : decode cX2_monthOf 64 = .ok (.iaload, 1) := by decide +kernel
theorem dX2_monthOf_65 : decode cX2_monthOf 65 = .ok (.iload 4, 2) := by decide +kernel
theorem dX2_monthOf_67 : decode cX2_monthOf 67 = .ok (.iconst 2, 1) := by decide +kernel
theorem dX2_monthOf_68 : decode cX2_monthOf 68 = .ok (.if_icmp .lt 7, 3) := by decide +kernel
theorem dX2_monthOf_71 : decode cX2_monthOf 71 = .ok (.iload_n 3, 1) := by decide +kernel
theorem dX2_monthOf_72 : decode cX2_monthOf 72 = .ok (.goto 4, 3) := by decide +kernel
theorem dX2_monthOf_75 : decode cX2_monthOf 75 = .ok (.iconst 0, 1) := by decide +kernel
theorem dX2_monthOf_76 : decode cX2_monthOf 76 = .ok (.iadd, 1) := by decide +kernel
theorem dX2_monthOf_77 : decode cX2_monthOf 77 = .ok (.if_icmp .lt 11, 3) := by decide +kernel
theorem dX2_monthOf_80 : decode cX2_monthOf 80 = .ok (.iload_n 1, 1) := by decide +kernel
theorem dX2_monthOf_81 : decode cX2_monthOf 81 = .ok (.bipush 12, 2) := by decide +kernel
theorem dX2_monthOf_83 : decode cX2_monthOf 83 = .ok (.imul, 1) := by decide +kernel
theorem dX2_monthOf_84 : decode cX2_monthOf 84 = .ok (.iload 4, 2) := by decide +kernel
theorem dX2_monthOf_86 : decode cX2_monthOf 86 = .ok (.iadd, 1) := by decide +kernel
theorem dX2_monthOf_87 : decode cX2_monthOf 87 = .ok (.ireturn, 1) := by decide +kernel
theorem dX2_monthOf_88 : decode cX2_monthOf 88 = .ok (.iinc 4 (-1), 3) := by decide +kernel
theorem dX2_monthOf_91 : decode cX2_monthOf 91 = .ok (.goto (-38), 3) := by decide +kernel
theorem dX2_monthOf_94 : decode cX2_monthOf 94 = .ok (.iload_n 1, 1) := by decide +kernel
theorem dX2_monthOf_95 : decode cX2_monthOf 95 = .ok (.bipush 12, 2) := by decide +kernel
theorem dX2_monthOf_97 : decode cX2_monthOf 97 = .ok (.imul, 1) := by decide +kernel
theorem dX2_monthOf_98 : decode cX2_monthOf 98 = .ok (.ireturn, 1) := by decide +kernel
theorem dX2_partsBetween_0 : decode cX2_partsBetween 0 = .ok (.iload_n 0, 1) := by decide +kernel
theorem dX2_partsBetween_1 : decode cX2_partsBetween 1 = .ok (.ifCond .ne 14, 3) := by decide +kernel
theorem dX2_partsBetween_4 : decode cX2_partsBetween 4 = .ok (.iload_n 2, 1) := by decide +kernel
theorem dX2_partsBetween_5 : decode cX2_partsBetween 5 = .ok (.invokestatic 23, 3) := by decide +kernel
theorem dX2_partsBetween_8 : decode cX2_partsBetween 8 = .ok (.iload_n 1, 1) := by decide +kernel
theorem dX2_partsBetween_9 : decode cX2_partsBetween 9 = .ok (.invokestatic 23, 3) := by decide +kernel
theorem dX2_partsBetween_12 : decode cX2_partsBetween 12 = .ok (.isub, 1) := by decide +kernel
theorem dX2_partsBetween_13 : decode cX2_partsBetween 13 = .ok (.i2l, 1) := by decide +kernel
theorem dX2_partsBetween_14 : decode cX2_partsBetween 14 = .ok (.lreturn, 1) := by decide +kernel
theorem dX2_partsBetween_15 : decode cX2_partsBetween 15 = .ok (.iload_n 0, 1) := by decide +kernel
theorem dX2_partsBetween_16 : decode cX2_partsBetween 16 = .ok (.iconst 3, 1) := by decide +kernel
theorem dX2_partsBetween_17 : decode cX2_partsBetween 17 = .ok (.if_icmp .ge 8, 3) := by decide +kernel
theorem dX2_partsBetween_20 : decode cX2_partsBetween 20 = .ok (.iload_n 2, 1) := by decide +kernel
theorem dX2_partsBetween_21 : decode cX2_partsBetween 21 = .ok (.iload_n 1, 1) := by decide +kernel
theorem dX2_partsBetween_22 : decode cX2_partsBetween 22 = .ok (.isub, 1) := by decide +kernel
theorem dX2_partsBetween_23 : decode cX2_partsBetween 23 = .ok (.i2l, 1) := by decide +kernel
theorem dX2_partsBetween_24 : decode cX2_partsBetween 24 = .ok (.lreturn, 1) := by decide +kernel
theorem dX2_partsBetween_25 : decode cX2_partsBetween 25 = .ok (.iload_n 2, 1) := by decide +kernel
theorem dX2_partsBetween_26 : decode cX2_partsBetween 26 = .ok (.invokestatic 26, 3) := by decide +kernel
theorem dX2_partsBetween_29 : decode cX2_partsBetween 29 = .ok (.iload_n 1, 1) := by decide +kernel
theorem dX2_partsBetween_30 : decode cX2_partsBetween 30 = .ok (.invokestatic 26, 3) := by decide +kernel
theorem dX2_partsBetween_33 : decode cX2_partsBetween 33 = .ok (.isub, 1) := by decide +kernel
theorem dX2_partsBetween_34 : decode cX2_partsBetween 34 = .ok (.i2l, 1) := by decide +kernel
theorem dX2_partsBetween_35 : decode cX2_partsBetween 35 = .ok (.lstore_n 3, 1) := by decide +kernel
theorem dX2_partsBetween_36 : decode cX2_partsBetween 36 = .ok (.lload_n 3, 1) := by decide +kernel
theorem dX2_partsBetween_37 : decode cX2_partsBetween 37 = .ok (.ldc2_w 29, 3) := by decide +kernel
theorem dX2_partsBetween_40 : decode cX2_partsBetween 40 = .ok (.lmul, 1) := by decide +kernel
theorem dX2_partsBetween_41 : decode cX2_partsBetween 41 = .ok (.iload_n 2, 1) := by decide +kernel
theorem dX2_partsBetween_42 : decode cX2_partsBetween 42 = .ok (.iload_n 1, 1) := by decide +kernel
theorem dX2_partsBetween_43 : decode cX2_partsBetween 43 = .ok (.isub, 1) := by decide +kernel
theorem dX2_partsBetween_44 : decode cX2_partsBetween 44 = .ok (.i2l, 1) := by decide +kernel
theorem dX2_partsBetween_45 : decode cX2_partsBetween 45 = .ok (.lload_n 3, 1) := by decide +kernel
theorem dX2_partsBetween_46 : decode cX2_partsBetween 46 = .ok (.lsub, 1) := by decide +kernel
theorem dX2_partsBetween_47 : decode cX2_partsBetween 47 = .ok (.ldc2_w 31, 3) := by decide +kernel
theorem dX2_partsBetween_50 : decode cX2_partsBetween 50 = .ok (.lmul, 1) := by decide +kernel
theorem dX2_partsBetween_51 : decode cX2_partsBetween 51 = .ok (.ladd, 1) := by decide +kernel
theorem dX2_partsBetween_52 : decode cX2_partsBetween 52 = .ok (.lreturn, 1) := by decide +kernel
theorem dX2_cents_0 : decode cX2_cents 0 = .ok (.iload_n 2, 1) := by decide +kernel
theorem dX2_cents_1 : decode cX2_cents 1 = .ok (.iconst 2, 1) := by decide +kernel
theorem dX2_cents_2 : decode cX2_cents 2 = .ok (.if_icmp .ge 9, 3) := by decide +kernel
theorem dX2_cents_5 : decode cX2_cents 5 = .ok (.ldc2_w 33, 3) := by decide +kernel
theorem dX2_cents_8 : decode cX2_cents 8 = .ok (.goto 17, 3) := by decide +kernel
theorem dX2_cents_11 : decode cX2_cents 11 = .ok (.iload_n 2, 1) := by decide +kernel
theorem dX2_cents_12 : decode cX2_cents 12 = .ok (.iconst 2, 1) := by decide +kernel
theorem dX2_cents_13 : decode cX2_cents 13 = .ok (.if_icmp .ne 9, 3) := by decide +kernel
theorem dX2_cents_16 : decode cX2_cents 16 = .ok (.ldc2_w 29, 3) := by decide +kernel
theorem dX2_cents_19 : decode cX2_cents 19 = .ok (.goto 6, 3) := by decide +kernel
theorem dX2_cents_22 : decode cX2_cents 22 = .ok (.ldc2_w 35, 3) := by decide +kernel
theorem dX2_cents_25 : decode cX2_cents 25 = .ok (.lstore 5, 2) := by decide +kernel
theorem dX2_cents_27 : decode cX2_cents 27 = .ok (.lload 5, 2) := by decide +kernel
theorem dX2_cents_29 : decode cX2_cents 29 = .ok (.ldc2_w 37, 3) := by decide +kernel
theorem dX2_cents_32 : decode cX2_cents 32 = .ok (.lmul, 1) := by decide +kernel
theorem dX2_cents_33 : decode cX2_cents 33 = .ok (.lstore 7, 2) := by decide +kernel
theorem dX2_cents_35 : decode cX2_cents 35 = .ok (.lload_n 0, 1) := by decide +kernel
theorem dX2_cents_36 : decode cX2_cents 36 = .ok (.lload_n 3, 1) := by decide +kernel
theorem dX2_cents_37 : decode cX2_cents 37 = .ok (.lmul, 1) := by decide +kernel
theorem dX2_cents_38 : decode cX2_cents 38 = .ok (.lload 7, 2) := by decide +kernel
theorem dX2_cents_40 : decode cX2_cents 40 = .ok (.ldc2_w 39, 3) := by decide +kernel
theorem dX2_cents_43 : decode cX2_cents 43 = .ok (.ldiv, 1) := by decide +kernel
theorem dX2_cents_44 : decode cX2_cents 44 = .ok (.ladd, 1) := by decide +kernel
theorem dX2_cents_45 : decode cX2_cents 45 = .ok (.lload 7, 2) := by decide +kernel
theorem dX2_cents_47 : decode cX2_cents 47 = .ok (.ldiv, 1) := by decide +kernel
theorem dX2_cents_48 : decode cX2_cents 48 = .ok (.lreturn, 1) := by decide +kernel
theorem dX2_thirties_0 : decode cX2_thirties 0 = .ok (.iload_n 0, 1) := by decide +kernel
theorem dX2_thirties_1 : decode cX2_thirties 1 = .ok (.invokestatic 41, 3) := by decide +kernel
theorem dX2_thirties_4 : decode cX2_thirties 4 = .ok (.istore_n 1, 1) := by decide +kernel
theorem dX2_thirties_5 : decode cX2_thirties 5 = .ok (.iload_n 1, 1) := by decide +kernel
theorem dX2_thirties_6 : decode cX2_thirties 6 = .ok (.bipush 30, 2) := by decide +kernel
theorem dX2_thirties_8 : decode cX2_thirties 8 = .ok (.imul, 1) := by decide +kernel
theorem dX2_thirties_9 : decode cX2_thirties 9 = .ok (.bipush 30, 2) := by decide +kernel
theorem dX2_thirties_11 : decode cX2_thirties 11 = .ok (.iconst 1, 1) := by decide +kernel
theorem dX2_thirties_12 : decode cX2_thirties 12 = .ok (.iload_n 0, 1) := by decide +kernel
theorem dX2_thirties_13 : decode cX2_thirties 13 = .ok (.iadd, 1) := by decide +kernel
theorem dX2_thirties_14 : decode cX2_thirties 14 = .ok (.iload_n 1, 1) := by decide +kernel
theorem dX2_thirties_15 : decode cX2_thirties 15 = .ok (.invokestatic 19, 3) := by decide +kernel
theorem dX2_thirties_18 : decode cX2_thirties 18 = .ok (.isub, 1) := by decide +kernel
theorem dX2_thirties_19 : decode cX2_thirties 19 = .ok (.invokestatic 44, 3) := by decide +kernel
theorem dX2_thirties_22 : decode cX2_thirties 22 = .ok (.iadd, 1) := by decide +kernel
theorem dX2_thirties_23 : decode cX2_thirties 23 = .ok (.ireturn, 1) := by decide +kernel
theorem dX2_leapYearDays_0 : decode cX2_leapYearDays 0 = .ok (.iload_n 0, 1) := by decide +kernel
theorem dX2_leapYearDays_1 : decode cX2_leapYearDays 1 = .ok (.sipush 1461, 3) := by decide +kernel
theorem dX2_leapYearDays_4 : decode cX2_leapYearDays 4 = .ok (.idiv, 1) := by decide +kernel
theorem dX2_leapYearDays_5 : decode cX2_leapYearDays 5 = .ok (.sipush 366, 3) := by decide +kernel
theorem dX2_leapYearDays_8 : decode cX2_leapYearDays 8 = .ok (.imul, 1) := by decide +kernel
theorem dX2_leapYearDays_9 : decode cX2_leapYearDays 9 = .ok (.sipush 366, 3) := by decide +kernel
theorem dX2_leapYearDays_12 : decode cX2_leapYearDays 12 = .ok (.iload_n 0, 1) := by decide +kernel
theorem dX2_leapYearDays_13 : decode cX2_leapYearDays 13 = .ok (.sipush 1461, 3) := by decide +kernel
theorem dX2_leapYearDays_16 : decode cX2_leapYearDays 16 = .ok (.irem, 1) := by decide +kernel
theorem dX2_leapYearDays_17 : decode cX2_leapYearDays 17 = .ok (.invokestatic 44, 3) := by decide +kernel
theorem dX2_leapYearDays_20 : decode cX2_leapYearDays 20 = .ok (.iadd, 1) := by decide +kernel
theorem dX2_leapYearDays_21 : decode cX2_leapYearDays 21 = .ok (.ireturn, 1) := by decide +kernel
end
section
theorem dX3_init_0 : decode cX3_init 0 = .ok (.aload_n 0, 1) := by decide +kernel
theorem dX3_init_1 : decode cX3_init 1 = .ok (.invokespecial 3, 3) := by decide +kernel
theorem dX3_init_4 : decode cX3_init 4 = .ok (.aload_n 0, 1) := by decide +kernel
theorem dX3_init_5 : decode cX3_init 5 = .ok (.iconst 0, 1) := by decide +kernel
theorem dX3_init_6 : decode cX3_init 6 = .ok (.putfield 11, 3) := by decide +kernel
theorem dX3_init_9 : decode cX3_init 9 = .ok (.aload_n 0, 1) := by decide +kernel
theorem dX3_init_10 : decode cX3_init 10 = .ok (.iconst 0, 1) := by decide +kernel
theorem dX3_init_11 : decode cX3_init 11 = .ok (.putfield 15, 3) := by decide +kernel
theorem dX3_init_14 : decode cX3_init 14 = .ok (.aload_n 0, 1) := by decide +kernel
theorem dX3_init_15 : decode cX3_init 15 = .ok (.iconst 0, 1) := by decide +kernel
theorem dX3_init_16 : decode cX3_init 16 = .ok (.putfield 18, 3) := by decide +kernel
theorem dX3_init_19 : decode cX3_init 19 = .ok (.aload_n 0, 1) := by decide +kernel
theorem dX3_init_20 : decode cX3_init 20 = .ok (.lconst 0, 1) := by decide +kernel
theorem dX3_init_21 : decode cX3_init 21 = .ok (.putfield 21, 3) := by decide +kernel
theorem dX3_init_24 : decode cX3_init 24 = .ok (.aload_n 0, 1) := by decide +kernel
theorem dX3_init_25 : decode cX3_init 25 = .ok (.bipush 60, 2) := by decide +kernel
theorem dX3_init_27 : decode cX3_init 27 = .ok (.newarray .long, 2) := by decide +kernel
theorem dX3_init_29 : decode cX3_init 29 = .ok (.putfield 25, 3) := by decide +kernel
theorem dX3_init_32 : decode cX3_init 32 = .ok (.return_, 1) := by decide +kernel
theorem dX3_takeLoan_0 : decode cX3_takeLoan 0 = .ok (.aload_n 0, 1) := by decide +kernel
theorem dX3_takeLoan_1 : decode cX3_takeLoan 1 = .ok (.iconst 1, 1) := by decide +kernel
theorem dX3_takeLoan_2 : decode cX3_takeLoan 2 = .ok (.putfield 11, 3) := by decide +kernel
theorem dX3_takeLoan_5 : decode cX3_takeLoan 5 = .ok (.aload_n 0, 1) := by decide +kernel
theorem dX3_takeLoan_6 : decode cX3_takeLoan 6 = .ok (.iload_n 1, 1) := by decide +kernel
theorem dX3_takeLoan_7 : decode cX3_takeLoan 7 = .ok (.putfield 15, 3) := by decide +kernel
theorem dX3_takeLoan_10 : decode cX3_takeLoan 10 = .ok (.return_, 1) := by decide +kernel
theorem dX3_takeBill_0 : decode cX3_takeBill 0 = .ok (.aload_n 0, 1) := by decide +kernel
theorem dX3_takeBill_1 : decode cX3_takeBill 1 = .ok (.iconst 2, 1) := by decide +kernel
theorem dX3_takeBill_2 : decode cX3_takeBill 2 = .ok (.putfield 11, 3) := by decide +kernel
theorem dX3_takeBill_5 : decode cX3_takeBill 5 = .ok (.aload_n 0, 1) := by decide +kernel
theorem dX3_takeBill_6 : decode cX3_takeBill 6 = .ok (.iload_n 1, 1) := by decide +kernel
theorem dX3_takeBill_7 : decode cX3_takeBill 7 = .ok (.putfield 15, 3) := by decide +kernel
theorem dX3_takeBill_10 : decode cX3_takeBill 10 = .ok (.aload_n 0, 1) := by decide +kernel
theorem dX3_takeBill_11 : decode cX3_takeBill 11 = .ok (.lload_n 2, 1) := by decide +kernel
theorem dX3_takeBill_12 : decode cX3_takeBill 12 = .ok (.putfield 21, 3) := by decide +kernel
theorem dX3_takeBill_15 : decode cX3_takeBill 15 = .ok (.return_, 1) := by decide +kernel
theorem dX3_takeRow_0 : decode cX3_takeRow 0 = .ok (.aload_n 0, 1) := by decide +kernel
theorem dX3_takeRow_1 : decode cX3_takeRow 1 = .ok (.iconst 3, 1) := by decide +kernel
theorem dX3_takeRow_2 : decode cX3_takeRow 2 = .ok (.putfield 11, 3) := by decide +kernel
theorem dX3_takeRow_5 : decode cX3_takeRow 5 = .ok (.aload_n 0, 1) := by decide +kernel
theorem dX3_takeRow_6 : decode cX3_takeRow 6 = .ok (.iload_n 1, 1) := by decide +kernel
theorem dX3_takeRow_7 : decode cX3_takeRow 7 = .ok (.putfield 18, 3) := by decide +kernel
theorem dX3_takeRow_10 : decode cX3_takeRow 10 = .ok (.aload_n 0, 1) := by decide +kernel
theorem dX3_takeRow_11 : decode cX3_takeRow 11 = .ok (.getfield 25, 3) := by decide +kernel
theorem dX3_takeRow_14 : decode cX3_takeRow 14 = .ok (.lconst 0, 1) := by decide +kernel
theorem dX3_takeRow_15 : decode cX3_takeRow 15 = .ok (.invokestatic 29, 3) := by decide +kernel
theorem dX3_takeRow_18 : decode cX3_takeRow 18 = .ok (.return_, 1) := by decide +kernel
end
section
theorem dX4_init_0 : decode cX4_init 0 = .ok (.aload_n 0, 1) := by decide +kernel
theorem dX4_init_1 : decode cX4_init 1 = .ok (.invokespecial 3, 3) := by decide +kernel
theorem dX4_init_4 : decode cX4_init 4 = .ok (.aload_n 0, 1) := by decide +kernel
theorem dX4_init_5 : decode cX4_init 5 = .ok (.bipush 61, 2) := by decide +kernel
theorem dX4_init_7 : decode cX4_init 7 = .ok (.newarray .int, 2) := by decide +kernel
theorem dX4_init_9 : decode cX4_init 9 = .ok (.putfield 9, 3) := by decide +kernel
theorem dX4_init_12 : decode cX4_init 12 = .ok (.aload_n 0, 1) := by decide +kernel
theorem dX4_init_13 : decode cX4_init 13 = .ok (.bipush 61, 2) := by decide +kernel
theorem dX4_init_15 : decode cX4_init 15 = .ok (.newarray .long, 2) := by decide +kernel
theorem dX4_init_17 : decode cX4_init 17 = .ok (.putfield 15, 3) := by decide +kernel
theorem dX4_init_20 : decode cX4_init 20 = .ok (.aload_n 0, 1) := by decide +kernel
theorem dX4_init_21 : decode cX4_init 21 = .ok (.bipush 61, 2) := by decide +kernel
theorem dX4_init_23 : decode cX4_init 23 = .ok (.newarray .long, 2) := by decide +kernel
theorem dX4_init_25 : decode cX4_init 25 = .ok (.putfield 19, 3) := by decide +kernel
theorem dX4_init_28 : decode cX4_init 28 = .ok (.aload_n 0, 1) := by decide +kernel
theorem dX4_init_29 : decode cX4_init 29 = .ok (.bipush 61, 2) := by decide +kernel
theorem dX4_init_31 : decode cX4_init 31 = .ok (.newarray .long, 2) := by decide +kernel
theorem dX4_init_33 : decode cX4_init 33 = .ok (.putfield 22, 3) := by decide +kernel
theorem dX4_init_36 : decode cX4_init 36 = .ok (.aload_n 0, 1) := by decide +kernel
theorem dX4_init_37 : decode cX4_init 37 = .ok (.bipush 61, 2) := by decide +kernel
theorem dX4_init_39 : decode cX4_init 39 = .ok (.newarray .long, 2) := by decide +kernel
theorem dX4_init_41 : decode cX4_init 41 = .ok (.putfield 25, 3) := by decide +kernel
theorem dX4_init_44 : decode cX4_init 44 = .ok (.aload_n 0, 1) := by decide +kernel
theorem dX4_init_45 : decode cX4_init 45 = .ok (.bipush 61, 2) := by decide +kernel
theorem dX4_init_47 : decode cX4_init 47 = .ok (.newarray .boolean, 2) := by decide +kernel
theorem dX4_init_49 : decode cX4_init 49 = .ok (.putfield 28, 3) := by decide +kernel
theorem dX4_init_52 : decode cX4_init 52 = .ok (.return_, 1) := by decide +kernel
theorem dX4_copyFrom_0 : decode cX4_copyFrom 0 = .ok (.aload_n 0, 1) := by decide +kernel
theorem dX4_copyFrom_1 : decode cX4_copyFrom 1 = .ok (.aload_n 1, 1) := by decide +kernel
theorem dX4_copyFrom_2 : decode cX4_copyFrom 2 = .ok (.getfield 32, 3) := by decide +kernel
theorem dX4_copyFrom_5 : decode cX4_copyFrom 5 = .ok (.putfield 32, 3) := by decide +kernel
theorem dX4_copyFrom_8 : decode cX4_copyFrom 8 = .ok (.aload_n 0, 1) := by decide +kernel
theorem dX4_copyFrom_9 : decode cX4_copyFrom 9 = .ok (.aload_n 1, 1) := by decide +kernel
theorem dX4_copyFrom_10 : decode cX4_copyFrom 10 = .ok (.getfield 36, 3) := by decide +kernel
theorem dX4_copyFrom_13 : decode cX4_copyFrom 13 = .ok (.putfield 36, 3) := by decide +kernel
theorem dX4_copyFrom_16 : decode cX4_copyFrom 16 = .ok (.aload_n 0, 1) := by decide +kernel
theorem dX4_copyFrom_17 : decode cX4_copyFrom 17 = .ok (.aload_n 1, 1) := by decide +kernel
theorem dX4_copyFrom_18 : decode cX4_copyFrom 18 = .ok (.getfield 39, 3) := by decide +kernel
theorem dX4_copyFrom_21 : decode cX4_copyFrom 21 = .ok (.putfield 39, 3) := by decide +kernel
theorem dX4_copyFrom_24 : decode cX4_copyFrom 24 = .ok (.aload_n 0, 1) := by decide +kernel
theorem dX4_copyFrom_25 : decode cX4_copyFrom 25 = .ok (.aload_n 1, 1) := by decide +kernel
theorem dX4_copyFrom_26 : decode cX4_copyFrom 26 = .ok (.getfield 42, 3) := by decide +kernel
theorem dX4_copyFrom_29 : decode cX4_copyFrom 29 = .ok (.putfield 42, 3) := by decide +kernel
theorem dX4_copyFrom_32 : decode cX4_copyFrom 32 = .ok (.aload_n 0, 1) := by decide +kernel
theorem dX4_copyFrom_33 : decode cX4_copyFrom 33 = .ok (.aload_n 1, 1) := by decide +kernel
theorem dX4_copyFrom_34 : decode cX4_copyFrom 34 = .ok (.getfield 45, 3) := by decide +kernel
theorem dX4_copyFrom_37 : decode cX4_copyFrom 37 = .ok (.putfield 45, 3) := by decide +kernel
theorem dX4_copyFrom_40 : decode cX4_copyFrom 40 = .ok (.aload_n 0, 1) := by decide +kernel
theorem dX4_copyFrom_41 : decode cX4_copyFrom 41 = .ok (.aload_n 1, 1) := by decide +kernel
theorem dX4_copyFrom_42 : decode cX4_copyFrom 42 = .ok (.getfield 48, 3) := by decide +kernel
theorem dX4_copyFrom_45 : decode cX4_copyFrom 45 = .ok (.putfield 48, 3) := by decide +kernel
theorem dX4_copyFrom_48 : decode cX4_copyFrom 48 = .ok (.aload_n 0, 1) := by decide +kernel
theorem dX4_copyFrom_49 : decode cX4_copyFrom 49 = .ok (.aload_n 1, 1) := by decide +kernel
theorem dX4_copyFrom_50 : decode cX4_copyFrom 50 = .ok (.getfield 51, 3) := by decide +kernel
theorem dX4_copyFrom_53 : decode cX4_copyFrom 53 = .ok (.putfield 51, 3) := by decide +kernel
theorem dX4_copyFrom_56 : decode cX4_copyFrom 56 = .ok (.aload_n 0, 1) := by decide +kernel
theorem dX4_copyFrom_57 : decode cX4_copyFrom 57 = .ok (.aload_n 1, 1) := by decide +kernel
theorem dX4_copyFrom_58 : decode cX4_copyFrom 58 = .ok (.getfield 54, 3) := by decide +kernel
theorem dX4_copyFrom_61 : decode cX4_copyFrom 61 = .ok (.putfield 54, 3) := by decide +kernel
theorem dX4_copyFrom_64 : decode cX4_copyFrom 64 = .ok (.aload_n 0, 1) := by decide +kernel
theorem dX4_copyFrom_65 : decode cX4_copyFrom 65 = .ok (.aload_n 1, 1) := by decide +kernel
theorem dX4_copyFrom_66 : decode cX4_copyFrom 66 = .ok (.getfield 58, 3) := by decide +kernel
theorem dX4_copyFrom_69 : decode cX4_copyFrom 69 = .ok (.putfield 58, 3) := by decide +kernel
theorem dX4_copyFrom_72 : decode cX4_copyFrom 72 = .ok (.aload_n 0, 1) := by decide +kernel
theorem dX4_copyFrom_73 : decode cX4_copyFrom 73 = .ok (.aload_n 1, 1) := by decide +kernel
theorem dX4_copyFrom_74 : decode cX4_copyFrom 74 = .ok (.getfield 61, 3) := by decide +kernel
theorem dX4_copyFrom_77 : decode cX4_copyFrom 77 = .ok (.putfield 61, 3) := by decide +kernel
theorem dX4_copyFrom_80 : decode cX4_copyFrom 80 = .ok (.aload_n 0, 1) := by decide +kernel
theorem dX4_copyFrom_81 : decode cX4_copyFrom 81 = .ok (.aload_n 1, 1) := by decide +kernel
theorem dX4_copyFrom_82 : decode cX4_copyFrom 82 = .ok (.getfield 64, 3) := by decide +kernel
theorem dX4_copyFrom_85 : decode cX4_copyFrom 85 = .ok (.putfield 64, 3) := by decide +kernel
theorem dX4_copyFrom_88 : decode cX4_copyFrom 88 = .ok (.aload_n 0, 1) := by decide +kernel
theorem dX4_copyFrom_89 : decode cX4_copyFrom 89 = .ok (.aload_n 1, 1) := by decide +kernel
theorem dX4_copyFrom_90 : decode cX4_copyFrom 90 = .ok (.getfield 67, 3) := by decide +kernel
theorem dX4_copyFrom_93 : decode cX4_copyFrom 93 = .ok (.putfield 67, 3) := by decide +kernel
theorem dX4_copyFrom_96 : decode cX4_copyFrom 96 = .ok (.aload_n 0, 1) := by decide +kernel
theorem dX4_copyFrom_97 : decode cX4_copyFrom 97 = .ok (.aload_n 1, 1) := by decide +kernel
theorem dX4_copyFrom_98 : decode cX4_copyFrom 98 = .ok (.getfield 70, 3) := by decide +kernel
theorem dX4_copyFrom_101 : decode cX4_copyFrom 101 = .ok (.putfield 70, 3) := by decide +kernel
theorem dX4_copyFrom_104 : decode cX4_copyFrom 104 = .ok (.aload_n 1, 1) := by decide +kernel
theorem dX4_copyFrom_105 : decode cX4_copyFrom 105 = .ok (.getfield 9, 3) := by decide +kernel
theorem dX4_copyFrom_108 : decode cX4_copyFrom 108 = .ok (.iconst 0, 1) := by decide +kernel
theorem dX4_copyFrom_109 : decode cX4_copyFrom 109 = .ok (.aload_n 0, 1) := by decide +kernel
theorem dX4_copyFrom_110 : decode cX4_copyFrom 110 = .ok (.getfield 9, 3) := by decide +kernel
theorem dX4_copyFrom_113 : decode cX4_copyFrom 113 = .ok (.iconst 0, 1) := by decide +kernel
theorem dX4_copyFrom_114 : decode cX4_copyFrom 114 = .ok (.bipush 61, 2) := by decide +kernel
theorem dX4_copyFrom_116 : decode cX4_copyFrom 116 = .ok (.invokestatic 73, 3) := by decide +kernel
theorem dX4_copyFrom_119 : decode cX4_copyFrom 119 = .ok (.aload_n 1, 1) := by decide +kernel
theorem dX4_copyFrom_120 : decode cX4_copyFrom 120 = .ok (.getfield 15, 3) := by decide +kernel
theorem dX4_copyFrom_123 : decode cX4_copyFrom 123 = .ok (.iconst 0, 1) := by decide +kernel
theorem dX4_copyFrom_124 : decode cX4_copyFrom 124 = .ok (.aload_n 0, 1) := by decide +kernel
theorem dX4_copyFrom_125 : decode cX4_copyFrom 125 = .ok (.getfield 15, 3) := by decide +kernel
theorem dX4_copyFrom_128 : decode cX4_copyFrom 128 = .ok (.iconst 0, 1) := by decide +kernel
theorem dX4_copyFrom_129 : decode cX4_copyFrom 129 = .ok (.bipush 61, 2) := by decide +kernel
theorem dX4_copyFrom_131 : decode cX4_copyFrom 131 = .ok (.invokestatic 73, 3) := by decide +kernel
theorem dX4_copyFrom_134 : decode cX4_copyFrom 134 = .ok (.aload_n 1, 1) := by decide +kernel
theorem dX4_copyFrom_135 : decode cX4_copyFrom 135 = .ok (.getfield 19, 3) := by decide +kernel
theorem dX4_copyFrom_138 : decode cX4_copyFrom 138 = .ok (.iconst 0, 1) := by decide +kernel
theorem dX4_copyFrom_139 : decode cX4_copyFrom 139 = .ok (.aload_n 0, 1) := by decide +kernel
theorem dX4_copyFrom_140 : decode cX4_copyFrom 140 = .ok (.getfield 19, 3) := by decide +kernel
theorem dX4_copyFrom_143 : decode cX4_copyFrom 143 = .ok (.iconst 0, 1) := by decide +kernel
theorem dX4_copyFrom_144 : decode cX4_copyFrom 144 = .ok (.bipush 61, 2) := by decide +kernel
theorem dX4_copyFrom_146 : decode cX4_copyFrom 146 = .ok (.invokestatic 73, 3) := by decide +kernel
theorem dX4_copyFrom_149 : decode cX4_copyFrom 149 = .ok (.aload_n 1, 1) := by decide +kernel
theorem dX4_copyFrom_150 : decode cX4_copyFrom 150 = .ok (.getfield 22, 3) := by decide +kernel
theorem dX4_copyFrom_153 : decode cX4_copyFrom 153 = .ok (.iconst 0, 1) := by decide +kernel
theorem dX4_copyFrom_154 : decode cX4_copyFrom 154 = .ok (.aload_n 0, 1) := by decide +kernel
theorem dX4_copyFrom_155 : decode cX4_copyFrom 155 = .ok (.getfield 22, 3) := by decide +kernel
theorem dX4_copyFrom_158 : decode cX4_copyFrom 158 = .ok (.iconst 0, 1) := by decide +kernel
theorem dX4_copyFrom_159 : decode cX4_copyFrom 159 = .ok (.bipush 61, 2) := by decide +kernel
theorem dX4_copyFrom_161 : decode cX4_copyFrom 161 = .ok (.invokestatic 73, 3) := by decide +kernel
theorem dX4_copyFrom_164 : decode cX4_copyFrom 164 = .ok (.aload_n 1, 1) := by decide +kernel
theorem dX4_copyFrom_165 : decode cX4_copyFrom 165 = .ok (.getfield 25, 3) := by decide +kernel
theorem dX4_copyFrom_168 : decode cX4_copyFrom 168 = .ok (.iconst 0, 1) := by decide +kernel
theorem dX4_copyFrom_169 : decode cX4_copyFrom 169 = .ok (.aload_n 0, 1) := by decide +kernel
theorem dX4_copyFrom_170 : decode cX4_copyFrom 170 = .ok (.getfield 25, 3) := by decide +kernel
theorem dX4_copyFrom_173 : decode cX4_copyFrom 173 = .ok (.iconst 0, 1) := by decide +kernel
theorem dX4_copyFrom_174 : decode cX4_copyFrom 174 = .ok (.bipush 61, 2) := by decide +kernel
theorem dX4_copyFrom_176 : decode cX4_copyFrom 176 = .ok (.invokestatic 73, 3) := by decide +kernel
theorem dX4_copyFrom_179 : decode cX4_copyFrom 179 = .ok (.aload_n 1, 1) := by decide +kernel
theorem dX4_copyFrom_180 : decode cX4_copyFrom 180 = .ok (.getfield 28, 3) := by decide +kernel
theorem dX4_copyFrom_183 : decode cX4_copyFrom 183 = .ok (.iconst 0, 1) := by decide +kernel
theorem dX4_copyFrom_184 : decode cX4_copyFrom 184 = .ok (.aload_n 0, 1) := by decide +kernel
theorem dX4_copyFrom_185 : decode cX4_copyFrom 185 = .ok (.getfield 28, 3) := by decide +kernel
theorem dX4_copyFrom_188 : decode cX4_copyFrom 188 = .ok (.iconst 0, 1) := by decide +kernel
theorem dX4_copyFrom_189 : decode cX4_copyFrom 189 = .ok (.bipush 61, 2) := by decide +kernel
theorem dX4_copyFrom_191 : decode cX4_copyFrom 191 = .ok (.invokestatic 73, 3) := by decide +kernel
theorem dX4_copyFrom_194 : decode cX4_copyFrom 194 = .ok (.return_, 1) := by decide +kernel
theorem dX4_clear_0 : decode cX4_clear 0 = .ok (.aload_n 0, 1) := by decide +kernel
theorem dX4_clear_1 : decode cX4_clear 1 = .ok (.lconst 0, 1) := by decide +kernel
theorem dX4_clear_2 : decode cX4_clear 2 = .ok (.putfield 39, 3) := by decide +kernel
theorem dX4_clear_5 : decode cX4_clear 5 = .ok (.aload_n 0, 1) := by decide +kernel
theorem dX4_clear_6 : decode cX4_clear 6 = .ok (.lconst 0, 1) := by decide +kernel
theorem dX4_clear_7 : decode cX4_clear 7 = .ok (.putfield 42, 3) := by decide +kernel
theorem dX4_clear_10 : decode cX4_clear 10 = .ok (.aload_n 0, 1) := by decide +kernel
theorem dX4_clear_11 : decode cX4_clear 11 = .ok (.lconst 0, 1) := by decide +kernel
theorem dX4_clear_12 : decode cX4_clear 12 = .ok (.putfield 45, 3) := by decide +kernel
theorem dX4_clear_15 : decode cX4_clear 15 = .ok (.aload_n 0, 1) := by decide +kernel
theorem dX4_clear_16 : decode cX4_clear 16 = .ok (.lconst 0, 1) := by decide +kernel
theorem dX4_clear_17 : decode cX4_clear 17 = .ok (.putfield 48, 3) := by decide +kernel
theorem dX4_clear_20 : decode cX4_clear 20 = .ok (.aload_n 0, 1) := by decide +kernel
theorem dX4_clear_21 : decode cX4_clear 21 = .ok (.lconst 0, 1) := by decide +kernel
theorem dX4_clear_22 : decode cX4_clear 22 = .ok (.putfield 51, 3) := by decide +kernel
theorem dX4_clear_25 : decode cX4_clear 25 = .ok (.aload_n 0, 1) := by decide +kernel
theorem dX4_clear_26 : decode cX4_clear 26 = .ok (.iconst 0, 1) := by decide +kernel
theorem dX4_clear_27 : decode cX4_clear 27 = .ok (.putfield 70, 3) := by decide +kernel
theorem dX4_clear_30 : decode cX4_clear 30 = .ok (.aload_n 0, 1) := by decide +kernel
theorem dX4_clear_31 : decode cX4_clear 31 = .ok (.invokevirtual 79, 3) := by decide +kernel
theorem dX4_clear_34 : decode cX4_clear 34 = .ok (.return_, 1) := by decide +kernel
theorem dX4_clearArrears_0 : decode cX4_clearArrears 0 = .ok (.iconst 0, 1) := by decide +kernel
theorem dX4_clearArrears_1 : decode cX4_clearArrears 1 = .ok (.istore_n 1, 1) := by decide +kernel
theorem dX4_clearArrears_2 : decode cX4_clearArrears 2 = .ok (.iload_n 1, 1) := by decide +kernel
theorem dX4_clearArrears_3 : decode cX4_clearArrears 3 = .ok (.bipush 60, 2) := by decide +kernel
theorem dX4_clearArrears_5 : decode cX4_clearArrears 5 = .ok (.if_icmp .gt 37, 3) := by decide +kernel
theorem dX4_clearArrears_8 : decode cX4_clearArrears 8 = .ok (.aload_n 0, 1) := by decide +kernel
theorem dX4_clearArrears_9 : decode cX4_clearArrears 9 = .ok (.getfield 19, 3) := by decide +kernel
theorem dX4_clearArrears_12 : decode cX4_clearArrears 12 = .ok (.iload_n 1, 1) := by decide +kernel
theorem dX4_clearArrears_13 : decode cX4_clearArrears 13 = .ok (.lconst 0, 1) := by decide +kernel
theorem dX4_clearArrears_14 : decode cX4_clearArrears 14 = .ok (.lastore, 1) := by decide +kernel
theorem dX4_clearArrears_15 : decode cX4_clearArrears 15 = .ok (.aload_n 0, 1) := by decide +kernel
theorem dX4_clearArrears_16 : decode cX4_clearArrears 16 = .ok (.getfield 22, 3) := by decide +kernel
theorem dX4_clearArrears_19 : decode cX4_clearArrears 19 = .ok (.iload_n 1, 1) := by decide +kernel
theorem dX4_clearArrears_20 : decode cX4_clearArrears 20 = .ok (.lconst 0, 1) := by decide +kernel
theorem dX4_clearArrears_21 : decode cX4_clearArrears 21 = .ok (.lastore, 1) := by decide +kernel
theorem dX4_clearArrears_22 : decode cX4_clearArrears 22 = .ok (.aload_n 0, 1) := by decide +kernel
theorem dX4_clearArrears_23 : decode cX4_clearArrears 23 = .ok (.getfield 25, 3) := by decide +kernel
theorem dX4_clearArrears_26 : decode cX4_clearArrears 26 = .ok (.iload_n 1, 1) := by decide +kernel
theorem dX4_clearArrears_27 : decode cX4_clearArrears 27 = .ok (.lconst 0, 1) := by decide +kernel
theorem dX4_clearArrears_28 : decode cX4_clearArrears 28 = .ok (.lastore, 1) := by decide +kernel
theorem dX4_clearArrears_29 : decode cX4_clearArrears 29 = .ok (.aload_n 0, 1) := by decide +kernel
theorem dX4_clearArrears_30 : decode cX4_clearArrears 30 = .ok (.getfield 28, 3) := by decide +kernel
theorem dX4_clearArrears_33 : decode cX4_clearArrears 33 = .ok (.iload_n 1, 1) := by decide +kernel
theorem dX4_clearArrears_34 : decode cX4_clearArrears 34 = .ok (.iconst 0, 1) := by decide +kernel
theorem dX4_clearArrears_35 : decode cX4_clearArrears 35 = .ok (.bastore, 1) := by decide +kernel
theorem dX4_clearArrears_36 : decode cX4_clearArrears 36 = .ok (.iinc 1 1, 3) := by decide +kernel
theorem dX4_clearArrears_39 : decode cX4_clearArrears 39 = .ok (.goto (-37), 3) := by decide +kernel
theorem dX4_clearArrears_42 : decode cX4_clearArrears 42 = .ok (.return_, 1) := by decide +kernel
theorem dX4_layPeriods_0 : decode cX4_layPeriods 0 = .ok (.iload_n 1, 1) := by decide +kernel
theorem dX4_layPeriods_1 : decode cX4_layPeriods 1 = .ok (.invokestatic 82, 3) := by decide +kernel
theorem dX4_layPeriods_4 : decode cX4_layPeriods 4 = .ok (.istore_n 2, 1) := by decide +kernel
theorem dX4_layPeriods_5 : decode cX4_layPeriods 5 = .ok (.iload_n 1, 1) := by decide +kernel
theorem dX4_layPeriods_6 : decode cX4_layPeriods 6 = .ok (.iload_n 2, 1) := by decide +kernel
theorem dX4_layPeriods_7 : decode cX4_layPeriods 7 = .ok (.invokestatic 88, 3) := by decide +kernel
theorem dX4_layPeriods_10 : decode cX4_layPeriods 10 = .ok (.isub, 1) := by decide +kernel
theorem dX4_layPeriods_11 : decode cX4_layPeriods 11 = .ok (.istore_n 3, 1) := by decide +kernel
theorem dX4_layPeriods_12 : decode cX4_layPeriods 12 = .ok (.aload_n 0, 1) := by decide +kernel
theorem dX4_layPeriods_13 : decode cX4_layPeriods 13 = .ok (.getfield 9, 3) := by decide +kernel
theorem dX4_layPeriods_16 : decode cX4_layPeriods 16 = .ok (.iconst 0, 1) := by decide +kernel
theorem dX4_layPeriods_17 : decode cX4_layPeriods 17 = .ok (.iload_n 1, 1) := by decide +kernel
theorem dX4_layPeriods_18 : decode cX4_layPeriods 18 = .ok (.iastore, 1) := by decide +kernel
theorem dX4_layPeriods_19 : decode cX4_layPeriods 19 = .ok (.iconst 1, 1) := by decide +kernel
theorem dX4_layPeriods_20 : decode cX4_layPeriods 20 = .ok (.istore 4, 2) := by decide +kernel
theorem dX4_layPeriods_22 : decode cX4_layPeriods 22 = .ok (.iload 4, 2) := by decide +kernel
theorem dX4_layPeriods_24 : decode cX4_layPeriods 24 = .ok (.aload_n 0, 1) := by decide +kernel
theorem dX4_layPeriods_25 : decode cX4_layPeriods 25 = .ok (.getfield 67, 3) := by decide +kernel
theorem dX4_layPeriods_28 : decode cX4_layPeriods 28 = .ok (.if_icmp .gt 67, 3) := by decide +kernel
theorem dX4_layPeriods_31 : decode cX4_layPeriods 31 = .ok (.aload_n 0, 1) := by decide +kernel
theorem dX4_layPeriods_32 : decode cX4_layPeriods 32 = .ok (.getfield 9, 3) := by decide +kernel
theorem dX4_layPeriods_35 : decode cX4_layPeriods 35 = .ok (.iload 4, 2) := by decide +kernel
theorem dX4_layPeriods_37 : decode cX4_layPeriods 37 = .ok (.iload_n 2, 1) := by decide +kernel
theorem dX4_layPeriods_38 : decode cX4_layPeriods 38 = .ok (.iload 4, 2) := by decide +kernel
theorem dX4_layPeriods_40 : decode cX4_layPeriods 40 = .ok (.iadd, 1) := by decide +kernel
theorem dX4_layPeriods_41 : decode cX4_layPeriods 41 = .ok (.invokestatic 88, 3) := by decide +kernel
theorem dX4_layPeriods_44 : decode cX4_layPeriods 44 = .ok (.iload_n 3, 1) := by decide +kernel
theorem dX4_layPeriods_45 : decode cX4_layPeriods 45 = .ok (.iload_n 2, 1) := by decide +kernel
theorem dX4_layPeriods_46 : decode cX4_layPeriods 46 = .ok (.iload 4, 2) := by decide +kernel
theorem dX4_layPeriods_48 : decode cX4_layPeriods 48 = .ok (.iadd, 1) := by decide +kernel
theorem dX4_layPeriods_49 : decode cX4_layPeriods 49 = .ok (.invokestatic 91, 3) := by decide +kernel
theorem dX4_layPeriods_52 : decode cX4_layPeriods 52 = .ok (.iconst 1, 1) := by decide +kernel
theorem dX4_layPeriods_53 : decode cX4_layPeriods 53 = .ok (.isub, 1) := by decide +kernel
theorem dX4_layPeriods_54 : decode cX4_layPeriods 54 = .ok (.invokestatic 94, 3) := by decide +kernel
theorem dX4_layPeriods_57 : decode cX4_layPeriods 57 = .ok (.iadd, 1) := by decide +kernel
theorem dX4_layPeriods_58 : decode cX4_layPeriods 58 = .ok (.iastore, 1) := by decide +kernel
theorem dX4_layPeriods_59 : decode cX4_layPeriods 59 = .ok (.aload_n 0, 1) := by decide +kernel
theorem dX4_layPeriods_60 : decode cX4_layPeriods 60 = .ok (.getfield 15, 3) := by decide +kernel
theorem dX4_layPeriods_63 : decode cX4_layPeriods 63 = .ok (.iload 4, 2) := by decide +kernel
theorem dX4_layPeriods_65 : decode cX4_layPeriods 65 = .ok (.aload_n 0, 1) := by decide +kernel
theorem dX4_layPeriods_66 : decode cX4_layPeriods 66 = .ok (.getfield 58, 3) := by decide +kernel
theorem dX4_layPeriods_69 : decode cX4_layPeriods 69 = .ok (.aload_n 0, 1) := by decide +kernel
theorem dX4_layPeriods_70 : decode cX4_layPeriods 70 = .ok (.getfield 9, 3) := by decide +kernel
theorem dX4_layPeriods_73 : decode cX4_layPeriods 73 = .ok (.iload 4, 2) := by decide +kernel
theorem dX4_layPeriods_75 : decode cX4_layPeriods 75 = .ok (.iconst 1, 1) := by decide +kernel
theorem dX4_layPeriods_76 : decode cX4_layPeriods 76 = .ok (.isub, 1) := by decide +kernel
theorem dX4_layPeriods_77 : decode cX4_layPeriods 77 = .ok (.iaload, 1) := by decide +kernel
theorem dX4_layPeriods_78 : decode cX4_layPeriods 78 = .ok (.aload_n 0, 1) := by decide +kernel
theorem dX4_layPeriods_79 : decode cX4_layPeriods 79 = .ok (.getfield 9, 3) := by decide +kernel
theorem dX4_layPeriods_82 : decode cX4_layPeriods 82 = .ok (.iload 4, 2) := by decide +kernel
theorem dX4_layPeriods_84 : decode cX4_layPeriods 84 = .ok (.iaload, 1) := by decide +kernel
theorem dX4_layPeriods_85 : decode cX4_layPeriods 85 = .ok (.invokestatic 100, 3) := by decide +kernel
theorem dX4_layPeriods_88 : decode cX4_layPeriods 88 = .ok (.lastore, 1) := by decide +kernel
theorem dX4_layPeriods_89 : decode cX4_layPeriods 89 = .ok (.iinc 4 1, 3) := by decide +kernel
theorem dX4_layPeriods_92 : decode cX4_layPeriods 92 = .ok (.goto (-70), 3) := by decide +kernel
theorem dX4_layPeriods_95 : decode cX4_layPeriods 95 = .ok (.return_, 1) := by decide +kernel
theorem dX4_interestOf_0 : decode cX4_interestOf 0 = .ok (.lload_n 2, 1) := by decide +kernel
theorem dX4_interestOf_1 : decode cX4_interestOf 1 = .ok (.aload_n 0, 1) := by decide +kernel
theorem dX4_interestOf_2 : decode cX4_interestOf 2 = .ok (.getfield 54, 3) := by decide +kernel
theorem dX4_interestOf_5 : decode cX4_interestOf 5 = .ok (.i2l, 1) := by decide +kernel
theorem dX4_interestOf_6 : decode cX4_interestOf 6 = .ok (.lmul, 1) := by decide +kernel
theorem dX4_interestOf_7 : decode cX4_interestOf 7 = .ok (.aload_n 0, 1) := by decide +kernel
theorem dX4_interestOf_8 : decode cX4_interestOf 8 = .ok (.getfield 58, 3) := by decide +kernel
theorem dX4_interestOf_11 : decode cX4_interestOf 11 = .ok (.aload_n 0, 1) := by decide +kernel
theorem dX4_interestOf_12 : decode cX4_interestOf 12 = .ok (.getfield 15, 3) := by decide +kernel
theorem dX4_interestOf_15 : decode cX4_interestOf 15 = .ok (.iload_n 1, 1) := by decide +kernel
theorem dX4_interestOf_16 : decode cX4_interestOf 16 = .ok (.laload, 1) := by decide +kernel
theorem dX4_interestOf_17 : decode cX4_interestOf 17 = .ok (.invokestatic 104, 3) := by decide +kernel
theorem dX4_interestOf_20 : decode cX4_interestOf 20 = .ok (.lreturn, 1) := by decide +kernel
theorem dX4_principalOf_0 : decode cX4_principalOf 0 = .ok (.aload_n 0, 1) := by decide +kernel
theorem dX4_principalOf_1 : decode cX4_principalOf 1 = .ok (.getfield 67, 3) := by decide +kernel
theorem dX4_principalOf_4 : decode cX4_principalOf 4 = .ok (.iload_n 1, 1) := by decide +kernel
theorem dX4_principalOf_5 : decode cX4_principalOf 5 = .ok (.isub, 1) := by decide +kernel
theorem dX4_principalOf_6 : decode cX4_principalOf 6 = .ok (.iconst 1, 1) := by decide +kernel
theorem dX4_principalOf_7 : decode cX4_principalOf 7 = .ok (.iadd, 1) := by decide +kernel
theorem dX4_principalOf_8 : decode cX4_principalOf 8 = .ok (.istore 6, 2) := by decide +kernel
theorem dX4_principalOf_10 : decode cX4_principalOf 10 = .ok (.iload 6, 2) := by decide +kernel
theorem dX4_principalOf_12 : decode cX4_principalOf 12 = .ok (.iconst 1, 1) := by decide +kernel
theorem dX4_principalOf_13 : decode cX4_principalOf 13 = .ok (.if_icmp .gt 5, 3) := by decide +kernel
theorem dX4_principalOf_16 : decode cX4_principalOf 16 = .ok (.lload_n 2, 1) := by decide +kernel
theorem dX4_principalOf_17 : decode cX4_principalOf 17 = .ok (.lreturn, 1) := by decide +kernel
theorem dX4_principalOf_18 : decode cX4_principalOf 18 = .ok (.aload_n 0, 1) := by decide +kernel
theorem dX4_principalOf_19 : decode cX4_principalOf 19 = .ok (.getfield 61, 3) := by decide +kernel
theorem dX4_principalOf_22 : decode cX4_principalOf 22 = .ok (.lookupswitch 43 #[(0, 26), (1, 37)], 26) := by decide +kernel
theorem dX4_principalOf_48 : decode cX4_principalOf 48 = .ok (.aload_n 0, 1) := by decide +kernel
theorem dX4_principalOf_49 : decode cX4_principalOf 49 = .ok (.getfield 39, 3) := by decide +kernel
theorem dX4_principalOf_52 : decode cX4_principalOf 52 = .ok (.lload_n 2, 1) := by decide +kernel
theorem dX4_principalOf_53 : decode cX4_principalOf 53 = .ok (.lload 4, 2) := by decide +kernel
theorem dX4_principalOf_55 : decode cX4_principalOf 55 = .ok (.invokestatic 108, 3) := by decide +kernel
theorem dX4_principalOf_58 : decode cX4_principalOf 58 = .ok (.lreturn, 1) := by decide +kernel
theorem dX4_principalOf_59 : decode cX4_principalOf 59 = .ok (.lload_n 2, 1) := by decide +kernel
theorem dX4_principalOf_60 : decode cX4_principalOf 60 = .ok (.iload 6, 2) := by decide +kernel
theorem dX4_principalOf_62 : decode cX4_principalOf 62 = .ok (.i2l, 1) := by decide +kernel
theorem dX4_principalOf_63 : decode cX4_principalOf 63 = .ok (.ldiv, 1) := by decide +kernel
theorem dX4_principalOf_64 : decode cX4_principalOf 64 = .ok (.lreturn, 1) := by decide +kernel
theorem dX4_principalOf_65 : decode cX4_principalOf 65 = .ok (.lconst 0, 1) := by decide +kernel
theorem dX4_principalOf_66 : decode cX4_principalOf 66 = .ok (.lreturn, 1) := by decide +kernel
theorem dX4_repaidBy_0 : decode cX4_repaidBy 0 = .ok (.lload_n 2, 1) := by decide +kernel
theorem dX4_repaidBy_1 : decode cX4_repaidBy 1 = .ok (.lconst 0, 1) := by decide +kernel
theorem dX4_repaidBy_2 : decode cX4_repaidBy 2 = .ok (.lload_n 0, 1) := by decide +kernel
theorem dX4_repaidBy_3 : decode cX4_repaidBy 3 = .ok (.lload 4, 2) := by decide +kernel
theorem dX4_repaidBy_5 : decode cX4_repaidBy 5 = .ok (.lsub, 1) := by decide +kernel
theorem dX4_repaidBy_6 : decode cX4_repaidBy 6 = .ok (.invokestatic 112, 3) := by decide +kernel
theorem dX4_repaidBy_9 : decode cX4_repaidBy 9 = .ok (.invokestatic 116, 3) := by decide +kernel
theorem dX4_repaidBy_12 : decode cX4_repaidBy 12 = .ok (.lreturn, 1) := by decide +kernel
theorem dX4_findLevel_0 : decode cX4_findLevel 0 = .ok (.aload_n 0, 1) := by decide +kernel
theorem dX4_findLevel_1 : decode cX4_findLevel 1 = .ok (.getfield 61, 3) := by decide +kernel
theorem dX4_findLevel_4 : decode cX4_findLevel 4 = .ok (.ifCond .ne 12, 3) := by decide +kernel
theorem dX4_findLevel_7 : decode cX4_findLevel 7 = .ok (.aload_n 0, 1) := by decide +kernel
theorem dX4_findLevel_8 : decode cX4_findLevel 8 = .ok (.getfield 36, 3) := by decide +kernel
theorem dX4_findLevel_11 : decode cX4_findLevel 11 = .ok (.lconst 0, 1) := by decide +kernel
theorem dX4_findLevel_12 : decode cX4_findLevel 12 = .ok (.lcmp, 1) := by decide +kernel
theorem dX4_findLevel_13 : decode cX4_findLevel 13 = .ok (.ifCond .ne 4, 3) := by decide +kernel
theorem dX4_findLevel_16 : decode cX4_findLevel 16 = .ok (.return_, 1) := by decide +kernel
theorem dX4_findLevel_17 : decode cX4_findLevel 17 = .ok (.lconst 0, 1) := by decide +kernel
theorem dX4_findLevel_18 : decode cX4_findLevel 18 = .ok (.lstore_n 1, 1) := by decide +kernel
theorem dX4_findLevel_19 : decode cX4_findLevel 19 = .ok (.ldc2_w 118, 3) := by decide +kernel
theorem dX4_findLevel_22 : decode cX4_findLevel 22 = .ok (.lstore_n 3, 1) := by decide +kernel
theorem dX4_findLevel_23 : decode cX4_findLevel 23 = .ok (.iconst 0, 1) := by decide +kernel
theorem dX4_findLevel_24 : decode cX4_findLevel 24 = .ok (.istore 5, 2) := by decide +kernel
theorem dX4_findLevel_26 : decode cX4_findLevel 26 = .ok (.iload 5, 2) := by decide +kernel
theorem dX4_findLevel_28 : decode cX4_findLevel 28 = .ok (.bipush 28, 2) := by decide +kernel
theorem dX4_findLevel_30 : decode cX4_findLevel 30 = .ok (.if_icmp .ge 44, 3) := by decide +kernel
theorem dX4_findLevel_33 : decode cX4_findLevel 33 = .ok (.lload_n 1, 1) := by decide +kernel
theorem dX4_findLevel_34 : decode cX4_findLevel 34 = .ok (.lload_n 3, 1) := by decide +kernel
theorem dX4_findLevel_35 : decode cX4_findLevel 35 = .ok (.lcmp, 1) := by decide +kernel
theorem dX4_findLevel_36 : decode cX4_findLevel 36 = .ok (.ifCond .ge 38, 3) := by decide +kernel
theorem dX4_findLevel_39 : decode cX4_findLevel 39 = .ok (.lload_n 1, 1) := by decide +kernel
theorem dX4_findLevel_40 : decode cX4_findLevel 40 = .ok (.lload_n 3, 1) := by decide +kernel
theorem dX4_findLevel_41 : decode cX4_findLevel 41 = .ok (.ladd, 1) := by decide +kernel
theorem dX4_findLevel_42 : decode cX4_findLevel 42 = .ok (.ldc2_w 120, 3) := by decide +kernel
theorem dX4_findLevel_45 : decode cX4_findLevel 45 = .ok (.ldiv, 1) := by decide +kernel
theorem dX4_findLevel_46 : decode cX4_findLevel 46 = .ok (.lstore 6, 2) := by decide +kernel
theorem dX4_findLevel_48 : decode cX4_findLevel 48 = .ok (.aload_n 0, 1) := by decide +kernel
theorem dX4_findLevel_49 : decode cX4_findLevel 49 = .ok (.lload 6, 2) := by decide +kernel
theorem dX4_findLevel_51 : decode cX4_findLevel 51 = .ok (.invokevirtual 122, 3) := by decide +kernel
theorem dX4_findLevel_54 : decode cX4_findLevel 54 = .ok (.ifCond .eq 9, 3) := by decide +kernel
theorem dX4_findLevel_57 : decode cX4_findLevel 57 = .ok (.lload 6, 2) := by decide +kernel
theorem dX4_findLevel_59 : decode cX4_findLevel 59 = .ok (.lstore_n 3, 1) := by decide +kernel
theorem dX4_findLevel_60 : decode cX4_findLevel 60 = .ok (.goto 8, 3) := by decide +kernel
theorem dX4_findLevel_63 : decode cX4_findLevel 63 = .ok (.lload 6, 2) := by decide +kernel
theorem dX4_findLevel_65 : decode cX4_findLevel 65 = .ok (.lconst 1, 1) := by decide +kernel
theorem dX4_findLevel_66 : decode cX4_findLevel 66 = .ok (.ladd, 1) := by decide +kernel
theorem dX4_findLevel_67 : decode cX4_findLevel 67 = .ok (.lstore_n 1, 1) := by decide +kernel
theorem dX4_findLevel_68 : decode cX4_findLevel 68 = .ok (.iinc 5 1, 3) := by decide +kernel
theorem dX4_findLevel_71 : decode cX4_findLevel 71 = .ok (.goto (-45), 3) := by decide +kernel
theorem dX4_findLevel_74 : decode cX4_findLevel 74 = .ok (.aload_n 0, 1) := by decide +kernel
theorem dX4_findLevel_75 : decode cX4_findLevel 75 = .ok (.lload_n 1, 1) := by decide +kernel
theorem dX4_findLevel_76 : decode cX4_findLevel 76 = .ok (.putfield 39, 3) := by decide +kernel
theorem dX4_findLevel_79 : decode cX4_findLevel 79 = .ok (.return_, 1) := by decide +kernel
theorem dX4_isRepaidBy_0 : decode cX4_isRepaidBy 0 = .ok (.aload_n 0, 1) := by decide +kernel
theorem dX4_isRepaidBy_1 : decode cX4_isRepaidBy 1 = .ok (.getfield 36, 3) := by decide +kernel
theorem dX4_isRepaidBy_4 : decode cX4_isRepaidBy 4 = .ok (.lstore_n 3, 1) := by decide +kernel
theorem dX4_isRepaidBy_5 : decode cX4_isRepaidBy 5 = .ok (.aload_n 0, 1) := by decide +kernel
theorem dX4_isRepaidBy_6 : decode cX4_isRepaidBy 6 = .ok (.getfield 70, 3) := by decide +kernel
theorem dX4_isRepaidBy_9 : decode cX4_isRepaidBy 9 = .ok (.iconst 1, 1) := by decide +kernel
theorem dX4_isRepaidBy_10 : decode cX4_isRepaidBy 10 = .ok (.iadd, 1) := by decide +kernel
theorem dX4_isRepaidBy_11 : decode cX4_isRepaidBy 11 = .ok (.istore 5, 2) := by decide +kernel
theorem dX4_isRepaidBy_13 : decode cX4_isRepaidBy 13 = .ok (.iload 5, 2) := by decide +kernel
theorem dX4_isRepaidBy_15 : decode cX4_isRepaidBy 15 = .ok (.aload_n 0, 1) := by decide +kernel
theorem dX4_isRepaidBy_16 : decode cX4_isRepaidBy 16 = .ok (.getfield 67, 3) := by decide +kernel
theorem dX4_isRepaidBy_19 : decode cX4_isRepaidBy 19 = .ok (.if_icmp .gt 30, 3) := by decide +kernel
theorem dX4_isRepaidBy_22 : decode cX4_isRepaidBy 22 = .ok (.lload_n 3, 1) := by decide +kernel
theorem dX4_isRepaidBy_23 : decode cX4_isRepaidBy 23 = .ok (.lconst 0, 1) := by decide +kernel
theorem dX4_isRepaidBy_24 : decode cX4_isRepaidBy 24 = .ok (.lcmp, 1) := by decide +kernel
theorem dX4_isRepaidBy_25 : decode cX4_isRepaidBy 25 = .ok (.ifCond .le 24, 3) := by decide +kernel
theorem dX4_isRepaidBy_28 : decode cX4_isRepaidBy 28 = .ok (.lload_n 3, 1) := by decide +kernel
theorem dX4_isRepaidBy_29 : decode cX4_isRepaidBy 29 = .ok (.lload_n 1, 1) := by decide +kernel
theorem dX4_isRepaidBy_30 : decode cX4_isRepaidBy 30 = .ok (.lload_n 3, 1) := by decide +kernel
theorem dX4_isRepaidBy_31 : decode cX4_isRepaidBy 31 = .ok (.aload_n 0, 1) := by decide +kernel
theorem dX4_isRepaidBy_32 : decode cX4_isRepaidBy 32 = .ok (.iload 5, 2) := by decide +kernel
theorem dX4_isRepaidBy_34 : decode cX4_isRepaidBy 34 = .ok (.lload_n 3, 1) := by decide +kernel
theorem dX4_isRepaidBy_35 : decode cX4_isRepaidBy 35 = .ok (.invokevirtual 126, 3) := by decide +kernel
theorem dX4_isRepaidBy_38 : decode cX4_isRepaidBy 38 = .ok (.invokestatic 108, 3) := by decide +kernel
theorem dX4_isRepaidBy_41 : decode cX4_isRepaidBy 41 = .ok (.lsub, 1) := by decide +kernel
theorem dX4_isRepaidBy_42 : decode cX4_isRepaidBy 42 = .ok (.lstore_n 3, 1) := by decide +kernel
theorem dX4_isRepaidBy_43 : decode cX4_isRepaidBy 43 = .ok (.iinc 5 1, 3) := by decide +kernel
theorem dX4_isRepaidBy_46 : decode cX4_isRepaidBy 46 = .ok (.goto (-33), 3) := by decide +kernel
theorem dX4_isRepaidBy_49 : decode cX4_isRepaidBy 49 = .ok (.lload_n 3, 1) := by decide +kernel
theorem dX4_isRepaidBy_50 : decode cX4_isRepaidBy 50 = .ok (.lconst 0, 1) := by decide +kernel
theorem dX4_isRepaidBy_51 : decode cX4_isRepaidBy 51 = .ok (.lcmp, 1) := by decide +kernel
theorem dX4_isRepaidBy_52 : decode cX4_isRepaidBy 52 = .ok (.ifCond .ne 7, 3) := by decide +kernel
theorem dX4_isRepaidBy_55 : decode cX4_isRepaidBy 55 = .ok (.iconst 1, 1) := by decide +kernel
theorem dX4_isRepaidBy_56 : decode cX4_isRepaidBy 56 = .ok (.goto 4, 3) := by decide +kernel
theorem dX4_isRepaidBy_59 : decode cX4_isRepaidBy 59 = .ok (.iconst 0, 1) := by decide +kernel
theorem dX4_isRepaidBy_60 : decode cX4_isRepaidBy 60 = .ok (.ireturn, 1) := by decide +kernel
theorem dX4_endPeriods_0 : decode cX4_endPeriods 0 = .ok (.iconst 0, 1) := by decide +kernel
theorem dX4_endPeriods_1 : decode cX4_endPeriods 1 = .ok (.istore_n 2, 1) := by decide +kernel
theorem dX4_endPeriods_2 : decode cX4_endPeriods 2 = .ok (.aload_n 0, 1) := by decide +kernel
theorem dX4_endPeriods_3 : decode cX4_endPeriods 3 = .ok (.getfield 70, 3) := by decide +kernel
theorem dX4_endPeriods_6 : decode cX4_endPeriods 6 = .ok (.iconst 1, 1) := by decide +kernel
theorem dX4_endPeriods_7 : decode cX4_endPeriods 7 = .ok (.iadd, 1) := by decide +kernel
theorem dX4_endPeriods_8 : decode cX4_endPeriods 8 = .ok (.istore_n 3, 1) := by decide +kernel
theorem dX4_endPeriods_9 : decode cX4_endPeriods 9 = .ok (.iload_n 3, 1) := by decide +kernel
theorem dX4_endPeriods_10 : decode cX4_endPeriods 10 = .ok (.aload_n 0, 1) := by decide +kernel
theorem dX4_endPeriods_11 : decode cX4_endPeriods 11 = .ok (.getfield 67, 3) := by decide +kernel
theorem dX4_endPeriods_14 : decode cX4_endPeriods 14 = .ok (.if_icmp .gt 88, 3) := by decide +kernel
theorem dX4_endPeriods_17 : decode cX4_endPeriods 17 = .ok (.aload_n 0, 1) := by decide +kernel
theorem dX4_endPeriods_18 : decode cX4_endPeriods 18 = .ok (.getfield 9, 3) := by decide +kernel
theorem dX4_endPeriods_21 : decode cX4_endPeriods 21 = .ok (.iload_n 3, 1) := by decide +kernel
theorem dX4_endPeriods_22 : decode cX4_endPeriods 22 = .ok (.iaload, 1) := by decide +kernel
theorem dX4_endPeriods_23 : decode cX4_endPeriods 23 = .ok (.iload_n 1, 1) := by decide +kernel
theorem dX4_endPeriods_24 : decode cX4_endPeriods 24 = .ok (.if_icmp .gt 78, 3) := by decide +kernel
theorem dX4_endPeriods_27 : decode cX4_endPeriods 27 = .ok (.aload_n 0, 1) := by decide +kernel
theorem dX4_endPeriods_28 : decode cX4_endPeriods 28 = .ok (.getfield 22, 3) := by decide +kernel
theorem dX4_endPeriods_31 : decode cX4_endPeriods 31 = .ok (.iload_n 3, 1) := by decide +kernel
theorem dX4_endPeriods_32 : decode cX4_endPeriods 32 = .ok (.aload_n 0, 1) := by decide +kernel
theorem dX4_endPeriods_33 : decode cX4_endPeriods 33 = .ok (.iload_n 3, 1) := by decide +kernel
theorem dX4_endPeriods_34 : decode cX4_endPeriods 34 = .ok (.aload_n 0, 1) := by decide +kernel
theorem dX4_endPeriods_35 : decode cX4_endPeriods 35 = .ok (.getfield 36, 3) := by decide +kernel
theorem dX4_endPeriods_38 : decode cX4_endPeriods 38 = .ok (.invokevirtual 126, 3) := by decide +kernel
theorem dX4_endPeriods_41 : decode cX4_endPeriods 41 = .ok (.lastore, 1) := by decide +kernel
theorem dX4_endPeriods_42 : decode cX4_endPeriods 42 = .ok (.aload_n 0, 1) := by decide +kernel
theorem dX4_endPeriods_43 : decode cX4_endPeriods 43 = .ok (.getfield 25, 3) := by decide +kernel
theorem dX4_endPeriods_46 : decode cX4_endPeriods 46 = .ok (.iload_n 3, 1) := by decide +kernel
theorem dX4_endPeriods_47 : decode cX4_endPeriods 47 = .ok (.aload_n 0, 1) := by decide +kernel
theorem dX4_endPeriods_48 : decode cX4_endPeriods 48 = .ok (.iload_n 3, 1) := by decide +kernel
theorem dX4_endPeriods_49 : decode cX4_endPeriods 49 = .ok (.aload_n 0, 1) := by decide +kernel
theorem dX4_endPeriods_50 : decode cX4_endPeriods 50 = .ok (.getfield 36, 3) := by decide +kernel
theorem dX4_endPeriods_53 : decode cX4_endPeriods 53 = .ok (.aload_n 0, 1) := by decide +kernel
theorem dX4_endPeriods_54 : decode cX4_endPeriods 54 = .ok (.getfield 22, 3) := by decide +kernel
theorem dX4_endPeriods_57 : decode cX4_endPeriods 57 = .ok (.iload_n 3, 1) := by decide +kernel
theorem dX4_endPeriods_58 : decode cX4_endPeriods 58 = .ok (.laload, 1) := by decide +kernel
theorem dX4_endPeriods_59 : decode cX4_endPeriods 59 = .ok (.invokevirtual 130, 3) := by decide +kernel
theorem dX4_endPeriods_62 : decode cX4_endPeriods 62 = .ok (.lastore, 1) := by decide +kernel
theorem dX4_endPeriods_63 : decode cX4_endPeriods 63 = .ok (.aload_n 0, 1) := by decide +kernel
theorem dX4_endPeriods_64 : decode cX4_endPeriods 64 = .ok (.dup, 1) := by decide +kernel
theorem dX4_endPeriods_65 : decode cX4_endPeriods 65 = .ok (.getfield 36, 3) := by decide +kernel
theorem dX4_endPeriods_68 : decode cX4_endPeriods 68 = .ok (.aload_n 0, 1) := by decide +kernel
theorem dX4_endPeriods_69 : decode cX4_endPeriods 69 = .ok (.getfield 25, 3) := by decide +kernel
theorem dX4_endPeriods_72 : decode cX4_endPeriods 72 = .ok (.iload_n 3, 1) := by decide +kernel
theorem dX4_endPeriods_73 : decode cX4_endPeriods 73 = .ok (.laload, 1) := by decide +kernel
theorem dX4_endPeriods_74 : decode cX4_endPeriods 74 = .ok (.lsub, 1) := by decide +kernel
theorem dX4_endPeriods_75 : decode cX4_endPeriods 75 = .ok (.putfield 36, 3) := by decide +kernel
theorem dX4_endPeriods_78 : decode cX4_endPeriods 78 = .ok (.aload_n 0, 1) := by decide +kernel
theorem dX4_endPeriods_79 : decode cX4_endPeriods 79 = .ok (.iload_n 3, 1) := by decide +kernel
theorem dX4_endPeriods_80 : decode cX4_endPeriods 80 = .ok (.putfield 70, 3) := by decide +kernel
theorem dX4_endPeriods_83 : decode cX4_endPeriods 83 = .ok (.aload_n 0, 1) := by decide +kernel
theorem dX4_endPeriods_84 : decode cX4_endPeriods 84 = .ok (.iload_n 3, 1) := by decide +kernel
theorem dX4_endPeriods_85 : decode cX4_endPeriods 85 = .ok (.invokevirtual 134, 3) := by decide +kernel
theorem dX4_endPeriods_88 : decode cX4_endPeriods 88 = .ok (.lconst 0, 1) := by decide +kernel
theorem dX4_endPeriods_89 : decode cX4_endPeriods 89 = .ok (.lcmp, 1) := by decide +kernel
theorem dX4_endPeriods_90 : decode cX4_endPeriods 90 = .ok (.ifCond .le 6, 3) := by decide +kernel
theorem dX4_endPeriods_93 : decode cX4_endPeriods 93 = .ok (.iinc 2 1, 3) := by decide +kernel
theorem dX4_endPeriods_96 : decode cX4_endPeriods 96 = .ok (.iinc 3 1, 3) := by decide +kernel
theorem dX4_endPeriods_99 : decode cX4_endPeriods 99 = .ok (.goto (-90), 3) := by decide +kernel
theorem dX4_endPeriods_102 : decode cX4_endPeriods 102 = .ok (.iload_n 2, 1) := by decide +kernel
theorem dX4_endPeriods_103 : decode cX4_endPeriods 103 = .ok (.ireturn, 1) := by decide +kernel
theorem dX4_chargeLate_0 : decode cX4_chargeLate 0 = .ok (.iconst 1, 1) := by decide +kernel
theorem dX4_chargeLate_1 : decode cX4_chargeLate 1 = .ok (.istore 5, 2) := by decide +kernel
theorem dX4_chargeLate_3 : decode cX4_chargeLate 3 = .ok (.iload 5, 2) := by decide +kernel
theorem dX4_chargeLate_5 : decode cX4_chargeLate 5 = .ok (.aload_n 0, 1) := by decide +kernel
theorem dX4_chargeLate_6 : decode cX4_chargeLate 6 = .ok (.getfield 70, 3) := by decide +kernel
theorem dX4_chargeLate_9 : decode cX4_chargeLate 9 = .ok (.if_icmp .gt 71, 3) := by decide +kernel
theorem dX4_chargeLate_12 : decode cX4_chargeLate 12 = .ok (.aload_n 0, 1) := by decide +kernel
theorem dX4_chargeLate_13 : decode cX4_chargeLate 13 = .ok (.getfield 9, 3) := by decide +kernel
theorem dX4_chargeLate_16 : decode cX4_chargeLate 16 = .ok (.iload 5, 2) := by decide +kernel
theorem dX4_chargeLate_18 : decode cX4_chargeLate 18 = .ok (.iaload, 1) := by decide +kernel
theorem dX4_chargeLate_19 : decode cX4_chargeLate 19 = .ok (.iload_n 3, 1) := by decide +kernel
theorem dX4_chargeLate_20 : decode cX4_chargeLate 20 = .ok (.iadd, 1) := by decide +kernel
theorem dX4_chargeLate_21 : decode cX4_chargeLate 21 = .ok (.istore 6, 2) := by decide +kernel
theorem dX4_chargeLate_23 : decode cX4_chargeLate 23 = .ok (.aload_n 0, 1) := by decide +kernel
theorem dX4_chargeLate_24 : decode cX4_chargeLate 24 = .ok (.iload 5, 2) := by decide +kernel
theorem dX4_chargeLate_26 : decode cX4_chargeLate 26 = .ok (.invokevirtual 134, 3) := by decide +kernel
theorem dX4_chargeLate_29 : decode cX4_chargeLate 29 = .ok (.lconst 0, 1) := by decide +kernel
theorem dX4_chargeLate_30 : decode cX4_chargeLate 30 = .ok (.lcmp, 1) := by decide +kernel
theorem dX4_chargeLate_31 : decode cX4_chargeLate 31 = .ok (.ifCond .le 43, 3) := by decide +kernel
theorem dX4_chargeLate_34 : decode cX4_chargeLate 34 = .ok (.aload_n 0, 1) := by decide +kernel
theorem dX4_chargeLate_35 : decode cX4_chargeLate 35 = .ok (.getfield 28, 3) := by decide +kernel
theorem dX4_chargeLate_38 : decode cX4_chargeLate 38 = .ok (.iload 5, 2) := by decide +kernel
theorem dX4_chargeLate_40 : decode cX4_chargeLate 40 = .ok (.baload, 1) := by decide +kernel
theorem dX4_chargeLate_41 : decode cX4_chargeLate 41 = .ok (.ifCond .ne 33, 3) := by decide +kernel
theorem dX4_chargeLate_44 : decode cX4_chargeLate 44 = .ok (.iload 6, 2) := by decide +kernel
theorem dX4_chargeLate_46 : decode cX4_chargeLate 46 = .ok (.iload_n 1, 1) := by decide +kernel
theorem dX4_chargeLate_47 : decode cX4_chargeLate 47 = .ok (.if_icmp .lt 27, 3) := by decide +kernel
theorem dX4_chargeLate_50 : decode cX4_chargeLate 50 = .ok (.iload 6, 2) := by decide +kernel
theorem dX4_chargeLate_52 : decode cX4_chargeLate 52 = .ok (.iload_n 2, 1) := by decide +kernel
theorem dX4_chargeLate_53 : decode cX4_chargeLate 53 = .ok (.if_icmp .gt 21, 3) := by decide +kernel
theorem dX4_chargeLate_56 : decode cX4_chargeLate 56 = .ok (.aload_n 0, 1) := by decide +kernel
theorem dX4_chargeLate_57 : decode cX4_chargeLate 57 = .ok (.getfield 19, 3) := by decide +kernel
theorem dX4_chargeLate_60 : decode cX4_chargeLate 60 = .ok (.iload 5, 2) := by decide +kernel
theorem dX4_chargeLate_62 : decode cX4_chargeLate 62 = .ok (.iload 4, 2) := by decide +kernel
theorem dX4_chargeLate_64 : decode cX4_chargeLate 64 = .ok (.i2l, 1) := by decide +kernel
theorem dX4_chargeLate_65 : decode cX4_chargeLate 65 = .ok (.lastore, 1) := by decide +kernel
theorem dX4_chargeLate_66 : decode cX4_chargeLate 66 = .ok (.aload_n 0, 1) := by decide +kernel
theorem dX4_chargeLate_67 : decode cX4_chargeLate 67 = .ok (.getfield 28, 3) := by decide +kernel
theorem dX4_chargeLate_70 : decode cX4_chargeLate 70 = .ok (.iload 5, 2) := by decide +kernel
theorem dX4_chargeLate_72 : decode cX4_chargeLate 72 = .ok (.iconst 1, 1) := by decide +kernel
theorem dX4_chargeLate_73 : decode cX4_chargeLate 73 = .ok (.bastore, 1) := by decide +kernel
theorem dX4_chargeLate_74 : decode cX4_chargeLate 74 = .ok (.iinc 5 1, 3) := by decide +kernel
theorem dX4_chargeLate_77 : decode cX4_chargeLate 77 = .ok (.goto (-74), 3) := by decide +kernel
theorem dX4_chargeLate_80 : decode cX4_chargeLate 80 = .ok (.return_, 1) := by decide +kernel
theorem dX4_receive_0 : decode cX4_receive 0 = .ok (.lload_n 1, 1) := by decide +kernel
theorem dX4_receive_1 : decode cX4_receive 1 = .ok (.lstore_n 3, 1) := by decide +kernel
theorem dX4_receive_2 : decode cX4_receive 2 = .ok (.iconst 1, 1) := by decide +kernel
theorem dX4_receive_3 : decode cX4_receive 3 = .ok (.istore 5, 2) := by decide +kernel
theorem dX4_receive_5 : decode cX4_receive 5 = .ok (.iload 5, 2) := by decide +kernel
theorem dX4_receive_7 : decode cX4_receive 7 = .ok (.aload_n 0, 1) := by decide +kernel
theorem dX4_receive_8 : decode cX4_receive 8 = .ok (.getfield 70, 3) := by decide +kernel
theorem dX4_receive_11 : decode cX4_receive 11 = .ok (.if_icmp .gt 23, 3) := by decide +kernel
theorem dX4_receive_14 : decode cX4_receive 14 = .ok (.lload_n 3, 1) := by decide +kernel
theorem dX4_receive_15 : decode cX4_receive 15 = .ok (.lconst 0, 1) := by decide +kernel
theorem dX4_receive_16 : decode cX4_receive 16 = .ok (.lcmp, 1) := by decide +kernel
theorem dX4_receive_17 : decode cX4_receive 17 = .ok (.ifCond .le 17, 3) := by decide +kernel
theorem dX4_receive_20 : decode cX4_receive 20 = .ok (.aload_n 0, 1) := by decide +kernel
theorem dX4_receive_21 : decode cX4_receive 21 = .ok (.iload 5, 2) := by decide +kernel
theorem dX4_receive_23 : decode cX4_receive 23 = .ok (.lload_n 3, 1) := by decide +kernel
theorem dX4_receive_24 : decode cX4_receive 24 = .ok (.invokevirtual 138, 3) := by decide +kernel
theorem dX4_receive_27 : decode cX4_receive 27 = .ok (.lstore_n 3, 1) := by decide +kernel
theorem dX4_receive_28 : decode cX4_receive 28 = .ok (.iinc 5 1, 3) := by decide +kernel
theorem dX4_receive_31 : decode cX4_receive 31 = .ok (.goto (-26), 3) := by decide +kernel
theorem dX4_receive_34 : decode cX4_receive 34 = .ok (.lload_n 3, 1) := by decide +kernel
theorem dX4_receive_35 : decode cX4_receive 35 = .ok (.aload_n 0, 1) := by decide +kernel
theorem dX4_receive_36 : decode cX4_receive 36 = .ok (.getfield 36, 3) := by decide +kernel
theorem dX4_receive_39 : decode cX4_receive 39 = .ok (.invokestatic 116, 3) := by decide +kernel
theorem dX4_receive_42 : decode cX4_receive 42 = .ok (.lstore 5, 2) := by decide +kernel
theorem dX4_receive_44 : decode cX4_receive 44 = .ok (.aload_n 0, 1) := by decide +kernel
theorem dX4_receive_45 : decode cX4_receive 45 = .ok (.dup, 1) := by decide +kernel
theorem dX4_receive_46 : decode cX4_receive 46 = .ok (.getfield 36, 3) := by decide +kernel
theorem dX4_receive_49 : decode cX4_receive 49 = .ok (.lload 5, 2) := by decide +kernel
theorem dX4_receive_51 : decode cX4_receive 51 = .ok (.lsub, 1) := by decide +kernel
theorem dX4_receive_52 : decode cX4_receive 52 = .ok (.putfield 36, 3) := by decide +kernel
theorem dX4_receive_55 : decode cX4_receive 55 = .ok (.aload_n 0, 1) := by decide +kernel
theorem dX4_receive_56 : decode cX4_receive 56 = .ok (.dup, 1) := by decide +kernel
theorem dX4_receive_57 : decode cX4_receive 57 = .ok (.getfield 48, 3) := by decide +kernel
theorem dX4_receive_60 : decode cX4_receive 60 = .ok (.lload 5, 2) := by decide +kernel
theorem dX4_receive_62 : decode cX4_receive 62 = .ok (.ladd, 1) := by decide +kernel
theorem dX4_receive_63 : decode cX4_receive 63 = .ok (.putfield 48, 3) := by decide +kernel
theorem dX4_receive_66 : decode cX4_receive 66 = .ok (.lload 5, 2) := by decide +kernel
theorem dX4_receive_68 : decode cX4_receive 68 = .ok (.lconst 0, 1) := by decide +kernel
theorem dX4_receive_69 : decode cX4_receive 69 = .ok (.lcmp, 1) := by decide +kernel
theorem dX4_receive_70 : decode cX4_receive 70 = .ok (.ifCond .le 15, 3) := by decide +kernel
theorem dX4_receive_73 : decode cX4_receive 73 = .ok (.aload_n 0, 1) := by decide +kernel
theorem dX4_receive_74 : decode cX4_receive 74 = .ok (.getfield 64, 3) := by decide +kernel
theorem dX4_receive_77 : decode cX4_receive 77 = .ok (.iconst 1, 1) := by decide +kernel
theorem dX4_receive_78 : decode cX4_receive 78 = .ok (.if_icmp .ne 7, 3) := by decide +kernel
theorem dX4_receive_81 : decode cX4_receive 81 = .ok (.aload_n 0, 1) := by decide +kernel
theorem dX4_receive_82 : decode cX4_receive 82 = .ok (.invokevirtual 141, 3) := by decide +kernel
theorem dX4_receive_85 : decode cX4_receive 85 = .ok (.lload_n 3, 1) := by decide +kernel
theorem dX4_receive_86 : decode cX4_receive 86 = .ok (.lload 5, 2) := by decide +kernel
theorem dX4_receive_88 : decode cX4_receive 88 = .ok (.lsub, 1) := by decide +kernel
theorem dX4_receive_89 : decode cX4_receive 89 = .ok (.lreturn, 1) := by decide +kernel
theorem dX4_payBill_0 : decode cX4_payBill 0 = .ok (.lload_n 2, 1) := by decide +kernel
theorem dX4_payBill_1 : decode cX4_payBill 1 = .ok (.aload_n 0, 1) := by decide +kernel
theorem dX4_payBill_2 : decode cX4_payBill 2 = .ok (.getfield 19, 3) := by decide +kernel
theorem dX4_payBill_5 : decode cX4_payBill 5 = .ok (.iload_n 1, 1) := by decide +kernel
theorem dX4_payBill_6 : decode cX4_payBill 6 = .ok (.laload, 1) := by decide +kernel
theorem dX4_payBill_7 : decode cX4_payBill 7 = .ok (.invokestatic 116, 3) := by decide +kernel
theorem dX4_payBill_10 : decode cX4_payBill 10 = .ok (.lstore 4, 2) := by decide +kernel
theorem dX4_payBill_12 : decode cX4_payBill 12 = .ok (.lload_n 2, 1) := by decide +kernel
theorem dX4_payBill_13 : decode cX4_payBill 13 = .ok (.lload 4, 2) := by decide +kernel
theorem dX4_payBill_15 : decode cX4_payBill 15 = .ok (.lsub, 1) := by decide +kernel
theorem dX4_payBill_16 : decode cX4_payBill 16 = .ok (.aload_n 0, 1) := by decide +kernel
theorem dX4_payBill_17 : decode cX4_payBill 17 = .ok (.getfield 22, 3) := by decide +kernel
theorem dX4_payBill_20 : decode cX4_payBill 20 = .ok (.iload_n 1, 1) := by decide +kernel
theorem dX4_payBill_21 : decode cX4_payBill 21 = .ok (.laload, 1) := by decide +kernel
theorem dX4_payBill_22 : decode cX4_payBill 22 = .ok (.invokestatic 116, 3) := by decide +kernel
theorem dX4_payBill_25 : decode cX4_payBill 25 = .ok (.lstore 6, 2) := by decide +kernel
theorem dX4_payBill_27 : decode cX4_payBill 27 = .ok (.lload_n 2, 1) := by decide +kernel
theorem dX4_payBill_28 : decode cX4_payBill 28 = .ok (.lload 4, 2) := by decide +kernel
theorem dX4_payBill_30 : decode cX4_payBill 30 = .ok (.lsub, 1) := by decide +kernel
theorem dX4_payBill_31 : decode cX4_payBill 31 = .ok (.lload 6, 2) := by decide +kernel
theorem dX4_payBill_33 : decode cX4_payBill 33 = .ok (.lsub, 1) := by decide +kernel
theorem dX4_payBill_34 : decode cX4_payBill 34 = .ok (.aload_n 0, 1) := by decide +kernel
theorem dX4_payBill_35 : decode cX4_payBill 35 = .ok (.getfield 25, 3) := by decide +kernel
theorem dX4_payBill_38 : decode cX4_payBill 38 = .ok (.iload_n 1, 1) := by decide +kernel
theorem dX4_payBill_39 : decode cX4_payBill 39 = .ok (.laload, 1) := by decide +kernel
theorem dX4_payBill_40 : decode cX4_payBill 40 = .ok (.invokestatic 116, 3) := by decide +kernel
theorem dX4_payBill_43 : decode cX4_payBill 43 = .ok (.lstore 8, 2) := by decide +kernel
theorem dX4_payBill_45 : decode cX4_payBill 45 = .ok (.aload_n 0, 1) := by decide +kernel
theorem dX4_payBill_46 : decode cX4_payBill 46 = .ok (.getfield 19, 3) := by decide +kernel
theorem dX4_payBill_49 : decode cX4_payBill 49 = .ok (.iload_n 1, 1) := by decide +kernel
theorem dX4_payBill_50 : decode cX4_payBill 50 = .ok (.dup2, 1) := by decide +kernel
theorem dX4_payBill_51 : decode cX4_payBill 51 = .ok (.laload, 1) := by decide +kernel
theorem dX4_payBill_52 : decode cX4_payBill 52 = .ok (.lload 4, 2) := by decide +kernel
theorem dX4_payBill_54 : decode cX4_payBill 54 = .ok (.lsub, 1) := by decide +kernel
theorem dX4_payBill_55 : decode cX4_payBill 55 = .ok (.lastore, 1) := by decide +kernel
theorem dX4_payBill_56 : decode cX4_payBill 56 = .ok (.aload_n 0, 1) := by decide +kernel
theorem dX4_payBill_57 : decode cX4_payBill 57 = .ok (.getfield 22, 3) := by decide +kernel
theorem dX4_payBill_60 : decode cX4_payBill 60 = .ok (.iload_n 1, 1) := by decide +kernel
theorem dX4_payBill_61 : decode cX4_payBill 61 = .ok (.dup2, 1) := by decide +kernel
theorem dX4_payBill_62 : decode cX4_payBill 62 = .ok (.laload, 1) := by decide +kernel
theorem dX4_payBill_63 : decode cX4_payBill 63 = .ok (.lload 6, 2) := by decide +kernel
theorem dX4_payBill_65 : decode cX4_payBill 65 = .ok (.lsub, 1) := by decide +kernel
theorem dX4_payBill_66 : decode cX4_payBill 66 = .ok (.lastore, 1) := by decide +kernel
theorem dX4_payBill_67 : decode cX4_payBill 67 = .ok (.aload_n 0, 1) := by decide +kernel
theorem dX4_payBill_68 : decode cX4_payBill 68 = .ok (.getfield 25, 3) := by decide +kernel
theorem dX4_payBill_71 : decode cX4_payBill 71 = .ok (.iload_n 1, 1) := by decide +kernel
theorem dX4_payBill_72 : decode cX4_payBill 72 = .ok (.dup2, 1) := by decide +kernel
theorem dX4_payBill_73 : decode cX4_payBill 73 = .ok (.laload, 1) := by decide +kernel
theorem dX4_payBill_74 : decode cX4_payBill 74 = .ok (.lload 8, 2) := by decide +kernel
theorem dX4_payBill_76 : decode cX4_payBill 76 = .ok (.lsub, 1) := by decide +kernel
theorem dX4_payBill_77 : decode cX4_payBill 77 = .ok (.lastore, 1) := by decide +kernel
theorem dX4_payBill_78 : decode cX4_payBill 78 = .ok (.aload_n 0, 1) := by decide +kernel
theorem dX4_payBill_79 : decode cX4_payBill 79 = .ok (.dup, 1) := by decide +kernel
theorem dX4_payBill_80 : decode cX4_payBill 80 = .ok (.getfield 42, 3) := by decide +kernel
theorem dX4_payBill_83 : decode cX4_payBill 83 = .ok (.lload 4, 2) := by decide +kernel
theorem dX4_payBill_85 : decode cX4_payBill 85 = .ok (.ladd, 1) := by decide +kernel
theorem dX4_payBill_86 : decode cX4_payBill 86 = .ok (.putfield 42, 3) := by decide +kernel
theorem dX4_payBill_89 : decode cX4_payBill 89 = .ok (.aload_n 0, 1) := by decide +kernel
theorem dX4_payBill_90 : decode cX4_payBill 90 = .ok (.dup, 1) := by decide +kernel
theorem dX4_payBill_91 : decode cX4_payBill 91 = .ok (.getfield 45, 3) := by decide +kernel
theorem dX4_payBill_94 : decode cX4_payBill 94 = .ok (.lload 6, 2) := by decide +kernel
theorem dX4_payBill_96 : decode cX4_payBill 96 = .ok (.ladd, 1) := by decide +kernel
theorem dX4_payBill_97 : decode cX4_payBill 97 = .ok (.putfield 45, 3) := by decide +kernel
theorem dX4_payBill_100 : decode cX4_payBill 100 = .ok (.aload_n 0, 1) := by decide +kernel
theorem dX4_payBill_101 : decode cX4_payBill 101 = .ok (.dup, 1) := by decide +kernel
theorem dX4_payBill_102 : decode cX4_payBill 102 = .ok (.getfield 48, 3) := by decide +kernel
theorem dX4_payBill_105 : decode cX4_payBill 105 = .ok (.lload 8, 2) := by decide +kernel
theorem dX4_payBill_107 : decode cX4_payBill 107 = .ok (.ladd, 1) := by decide +kernel
theorem dX4_payBill_108 : decode cX4_payBill 108 = .ok (.putfield 48, 3) := by decide +kernel
theorem dX4_payBill_111 : decode cX4_payBill 111 = .ok (.lload_n 2, 1) := by decide +kernel
theorem dX4_payBill_112 : decode cX4_payBill 112 = .ok (.lload 4, 2) := by decide +kernel
theorem dX4_payBill_114 : decode cX4_payBill 114 = .ok (.lsub, 1) := by decide +kernel
theorem dX4_payBill_115 : decode cX4_payBill 115 = .ok (.lload 6, 2) := by decide +kernel
theorem dX4_payBill_117 : decode cX4_payBill 117 = .ok (.lsub, 1) := by decide +kernel
theorem dX4_payBill_118 : decode cX4_payBill 118 = .ok (.lload 8, 2) := by decide +kernel
theorem dX4_payBill_120 : decode cX4_payBill 120 = .ok (.lsub, 1) := by decide +kernel
theorem dX4_payBill_121 : decode cX4_payBill 121 = .ok (.lreturn, 1) := by decide +kernel
theorem dX4_giveUp_0 : decode cX4_giveUp 0 = .ok (.aload_n 0, 1) := by decide +kernel
theorem dX4_giveUp_1 : decode cX4_giveUp 1 = .ok (.getfield 36, 3) := by decide +kernel
theorem dX4_giveUp_4 : decode cX4_giveUp 4 = .ok (.lstore_n 1, 1) := by decide +kernel
theorem dX4_giveUp_5 : decode cX4_giveUp 5 = .ok (.iconst 1, 1) := by decide +kernel
theorem dX4_giveUp_6 : decode cX4_giveUp 6 = .ok (.istore_n 3, 1) := by decide +kernel
theorem dX4_giveUp_7 : decode cX4_giveUp 7 = .ok (.iload_n 3, 1) := by decide +kernel
theorem dX4_giveUp_8 : decode cX4_giveUp 8 = .ok (.aload_n 0, 1) := by decide +kernel
theorem dX4_giveUp_9 : decode cX4_giveUp 9 = .ok (.getfield 70, 3) := by decide +kernel
theorem dX4_giveUp_12 : decode cX4_giveUp 12 = .ok (.if_icmp .gt 18, 3) := by decide +kernel
theorem dX4_giveUp_15 : decode cX4_giveUp 15 = .ok (.lload_n 1, 1) := by decide +kernel
theorem dX4_giveUp_16 : decode cX4_giveUp 16 = .ok (.aload_n 0, 1) := by decide +kernel
theorem dX4_giveUp_17 : decode cX4_giveUp 17 = .ok (.getfield 25, 3) := by decide +kernel
theorem dX4_giveUp_20 : decode cX4_giveUp 20 = .ok (.iload_n 3, 1) := by decide +kernel
theorem dX4_giveUp_21 : decode cX4_giveUp 21 = .ok (.laload, 1) := by decide +kernel
theorem dX4_giveUp_22 : decode cX4_giveUp 22 = .ok (.ladd, 1) := by decide +kernel
theorem dX4_giveUp_23 : decode cX4_giveUp 23 = .ok (.lstore_n 1, 1) := by decide +kernel
theorem dX4_giveUp_24 : decode cX4_giveUp 24 = .ok (.iinc 3 1, 3) := by decide +kernel
theorem dX4_giveUp_27 : decode cX4_giveUp 27 = .ok (.goto (-20), 3) := by decide +kernel
theorem dX4_giveUp_30 : decode cX4_giveUp 30 = .ok (.aload_n 0, 1) := by decide +kernel
theorem dX4_giveUp_31 : decode cX4_giveUp 31 = .ok (.lconst 0, 1) := by decide +kernel
theorem dX4_giveUp_32 : decode cX4_giveUp 32 = .ok (.putfield 36, 3) := by decide +kernel
theorem dX4_giveUp_35 : decode cX4_giveUp 35 = .ok (.aload_n 0, 1) := by decide +kernel
theorem dX4_giveUp_36 : decode cX4_giveUp 36 = .ok (.invokevirtual 79, 3) := by decide +kernel
theorem dX4_giveUp_39 : decode cX4_giveUp 39 = .ok (.aload_n 0, 1) := by decide +kernel
theorem dX4_giveUp_40 : decode cX4_giveUp 40 = .ok (.dup, 1) := by decide +kernel
theorem dX4_giveUp_41 : decode cX4_giveUp 41 = .ok (.getfield 51, 3) := by decide +kernel
theorem dX4_giveUp_44 : decode cX4_giveUp 44 = .ok (.lload_n 1, 1) := by decide +kernel
theorem dX4_giveUp_45 : decode cX4_giveUp 45 = .ok (.ladd, 1) := by decide +kernel
theorem dX4_giveUp_46 : decode cX4_giveUp 46 = .ok (.putfield 51, 3) := by decide +kernel
theorem dX4_giveUp_49 : decode cX4_giveUp 49 = .ok (.lload_n 1, 1) := by decide +kernel
theorem dX4_giveUp_50 : decode cX4_giveUp 50 = .ok (.lreturn, 1) := by decide +kernel
theorem dX4_asks_0 : decode cX4_asks 0 = .ok (.aload_n 0, 1) := by decide +kernel
theorem dX4_asks_1 : decode cX4_asks 1 = .ok (.getfield 19, 3) := by decide +kernel
theorem dX4_asks_4 : decode cX4_asks 4 = .ok (.iload_n 1, 1) := by decide +kernel
theorem dX4_asks_5 : decode cX4_asks 5 = .ok (.laload, 1) := by decide +kernel
theorem dX4_asks_6 : decode cX4_asks 6 = .ok (.aload_n 0, 1) := by decide +kernel
theorem dX4_asks_7 : decode cX4_asks 7 = .ok (.getfield 22, 3) := by decide +kernel
theorem dX4_asks_10 : decode cX4_asks 10 = .ok (.iload_n 1, 1) := by decide +kernel
theorem dX4_asks_11 : decode cX4_asks 11 = .ok (.laload, 1) := by decide +kernel
theorem dX4_asks_12 : decode cX4_asks 12 = .ok (.ladd, 1) := by decide +kernel
theorem dX4_asks_13 : decode cX4_asks 13 = .ok (.aload_n 0, 1) := by decide +kernel
theorem dX4_asks_14 : decode cX4_asks 14 = .ok (.getfield 25, 3) := by decide +kernel
theorem dX4_asks_17 : decode cX4_asks 17 = .ok (.iload_n 1, 1) := by decide +kernel
theorem dX4_asks_18 : decode cX4_asks 18 = .ok (.laload, 1) := by decide +kernel
theorem dX4_asks_19 : decode cX4_asks 19 = .ok (.ladd, 1) := by decide +kernel
theorem dX4_asks_20 : decode cX4_asks 20 = .ok (.lreturn, 1) := by decide +kernel
theorem dX4_owed_0 : decode cX4_owed 0 = .ok (.lconst 0, 1) := by decide +kernel
theorem dX4_owed_1 : decode cX4_owed 1 = .ok (.lstore_n 1, 1) := by decide +kernel
theorem dX4_owed_2 : decode cX4_owed 2 = .ok (.iconst 1, 1) := by decide +kernel
theorem dX4_owed_3 : decode cX4_owed 3 = .ok (.istore_n 3, 1) := by decide +kernel
theorem dX4_owed_4 : decode cX4_owed 4 = .ok (.iload_n 3, 1) := by decide +kernel
theorem dX4_owed_5 : decode cX4_owed 5 = .ok (.aload_n 0, 1) := by decide +kernel
theorem dX4_owed_6 : decode cX4_owed 6 = .ok (.getfield 70, 3) := by decide +kernel
theorem dX4_owed_9 : decode cX4_owed 9 = .ok (.if_icmp .gt 17, 3) := by decide +kernel
theorem dX4_owed_12 : decode cX4_owed 12 = .ok (.lload_n 1, 1) := by decide +kernel
theorem dX4_owed_13 : decode cX4_owed 13 = .ok (.aload_n 0, 1) := by decide +kernel
theorem dX4_owed_14 : decode cX4_owed 14 = .ok (.iload_n 3, 1) := by decide +kernel
theorem dX4_owed_15 : decode cX4_owed 15 = .ok (.invokevirtual 134, 3) := by decide +kernel
theorem dX4_owed_18 : decode cX4_owed 18 = .ok (.ladd, 1) := by decide +kernel
theorem dX4_owed_19 : decode cX4_owed 19 = .ok (.lstore_n 1, 1) := by decide +kernel
theorem dX4_owed_20 : decode cX4_owed 20 = .ok (.iinc 3 1, 3) := by decide +kernel
theorem dX4_owed_23 : decode cX4_owed 23 = .ok (.goto (-19), 3) := by decide +kernel
theorem dX4_owed_26 : decode cX4_owed 26 = .ok (.lload_n 1, 1) := by decide +kernel
theorem dX4_owed_27 : decode cX4_owed 27 = .ok (.lreturn, 1) := by decide +kernel
theorem dX4_isSettled_0 : decode cX4_isSettled 0 = .ok (.aload_n 0, 1) := by decide +kernel
theorem dX4_isSettled_1 : decode cX4_isSettled 1 = .ok (.getfield 36, 3) := by decide +kernel
theorem dX4_isSettled_4 : decode cX4_isSettled 4 = .ok (.lconst 0, 1) := by decide +kernel
theorem dX4_isSettled_5 : decode cX4_isSettled 5 = .ok (.lcmp, 1) := by decide +kernel
theorem dX4_isSettled_6 : decode cX4_isSettled 6 = .ok (.ifCond .ne 16, 3) := by decide +kernel
theorem dX4_isSettled_9 : decode cX4_isSettled 9 = .ok (.aload_n 0, 1) := by decide +kernel
theorem dX4_isSettled_10 : decode cX4_isSettled 10 = .ok (.invokevirtual 144, 3) := by decide +kernel
theorem dX4_isSettled_13 : decode cX4_isSettled 13 = .ok (.lconst 0, 1) := by decide +kernel
theorem dX4_isSettled_14 : decode cX4_isSettled 14 = .ok (.lcmp, 1) := by decide +kernel
theorem dX4_isSettled_15 : decode cX4_isSettled 15 = .ok (.ifCond .ne 7, 3) := by decide +kernel
theorem dX4_isSettled_18 : decode cX4_isSettled 18 = .ok (.iconst 1, 1) := by decide +kernel
theorem dX4_isSettled_19 : decode cX4_isSettled 19 = .ok (.goto 4, 3) := by decide +kernel
theorem dX4_isSettled_22 : decode cX4_isSettled 22 = .ok (.iconst 0, 1) := by decide +kernel
theorem dX4_isSettled_23 : decode cX4_isSettled 23 = .ok (.ireturn, 1) := by decide +kernel
theorem dX4_billsInArrears_0 : decode cX4_billsInArrears 0 = .ok (.iconst 0, 1) := by decide +kernel
theorem dX4_billsInArrears_1 : decode cX4_billsInArrears 1 = .ok (.istore_n 1, 1) := by decide +kernel
theorem dX4_billsInArrears_2 : decode cX4_billsInArrears 2 = .ok (.iconst 1, 1) := by decide +kernel
theorem dX4_billsInArrears_3 : decode cX4_billsInArrears 3 = .ok (.istore_n 2, 1) := by decide +kernel
theorem dX4_billsInArrears_4 : decode cX4_billsInArrears 4 = .ok (.iload_n 2, 1) := by decide +kernel
theorem dX4_billsInArrears_5 : decode cX4_billsInArrears 5 = .ok (.aload_n 0, 1) := by decide +kernel
theorem dX4_billsInArrears_6 : decode cX4_billsInArrears 6 = .ok (.getfield 70, 3) := by decide +kernel
theorem dX4_billsInArrears_9 : decode cX4_billsInArrears 9 = .ok (.if_icmp .gt 22, 3) := by decide +kernel
theorem dX4_billsInArrears_12 : decode cX4_billsInArrears 12 = .ok (.aload_n 0, 1) := by decide +kernel
theorem dX4_billsInArrears_13 : decode cX4_billsInArrears 13 = .ok (.iload_n 2, 1) := by decide +kernel
theorem dX4_billsInArrears_14 : decode cX4_billsInArrears 14 = .ok (.invokevirtual 134, 3) := by decide +kernel
theorem dX4_billsInArrears_17 : decode cX4_billsInArrears 17 = .ok (.lconst 0, 1) := by decide +kernel
theorem dX4_billsInArrears_18 : decode cX4_billsInArrears 18 = .ok (.lcmp, 1) := by decide +kernel
theorem dX4_billsInArrears_19 : decode cX4_billsInArrears 19 = .ok (.ifCond .le 6, 3) := by decide +kernel
theorem dX4_billsInArrears_22 : decode cX4_billsInArrears 22 = .ok (.iinc 1 1, 3) := by decide +kernel
theorem dX4_billsInArrears_25 : decode cX4_billsInArrears 25 = .ok (.iinc 2 1, 3) := by decide +kernel
theorem dX4_billsInArrears_28 : decode cX4_billsInArrears 28 = .ok (.goto (-24), 3) := by decide +kernel
theorem dX4_billsInArrears_31 : decode cX4_billsInArrears 31 = .ok (.iload_n 1, 1) := by decide +kernel
theorem dX4_billsInArrears_32 : decode cX4_billsInArrears 32 = .ok (.ireturn, 1) := by decide +kernel
theorem dX4_periodOfBill_0 : decode cX4_periodOfBill 0 = .ok (.iconst 0, 1) := by decide +kernel
theorem dX4_periodOfBill_1 : decode cX4_periodOfBill 1 = .ok (.istore_n 2, 1) := by decide +kernel
theorem dX4_periodOfBill_2 : decode cX4_periodOfBill 2 = .ok (.iconst 1, 1) := by decide +kernel
theorem dX4_periodOfBill_3 : decode cX4_periodOfBill 3 = .ok (.istore_n 3, 1) := by decide +kernel
theorem dX4_periodOfBill_4 : decode cX4_periodOfBill 4 = .ok (.iload_n 3, 1) := by decide +kernel
theorem dX4_periodOfBill_5 : decode cX4_periodOfBill 5 = .ok (.aload_n 0, 1) := by decide +kernel
theorem dX4_periodOfBill_6 : decode cX4_periodOfBill 6 = .ok (.getfield 70, 3) := by decide +kernel
theorem dX4_periodOfBill_9 : decode cX4_periodOfBill 9 = .ok (.if_icmp .gt 29, 3) := by decide +kernel
theorem dX4_periodOfBill_12 : decode cX4_periodOfBill 12 = .ok (.aload_n 0, 1) := by decide +kernel
theorem dX4_periodOfBill_13 : decode cX4_periodOfBill 13 = .ok (.iload_n 3, 1) := by decide +kernel
theorem dX4_periodOfBill_14 : decode cX4_periodOfBill 14 = .ok (.invokevirtual 134, 3) := by decide +kernel
theorem dX4_periodOfBill_17 : decode cX4_periodOfBill 17 = .ok (.lconst 0, 1) := by decide +kernel
theorem dX4_periodOfBill_18 : decode cX4_periodOfBill 18 = .ok (.lcmp, 1) := by decide +kernel
theorem dX4_periodOfBill_19 : decode cX4_periodOfBill 19 = .ok (.ifCond .le 13, 3) := by decide +kernel
theorem dX4_periodOfBill_22 : decode cX4_periodOfBill 22 = .ok (.iload_n 2, 1) := by decide +kernel
theorem dX4_periodOfBill_23 : decode cX4_periodOfBill 23 = .ok (.iload_n 1, 1) := by decide +kernel
theorem dX4_periodOfBill_24 : decode cX4_periodOfBill 24 = .ok (.if_icmp .ne 5, 3) := by decide +kernel
theorem dX4_periodOfBill_27 : decode cX4_periodOfBill 27 = .ok (.iload_n 3, 1) := by decide +kernel
theorem dX4_periodOfBill_28 : decode cX4_periodOfBill 28 = .ok (.ireturn, 1) := by decide +kernel
theorem dX4_periodOfBill_29 : decode cX4_periodOfBill 29 = .ok (.iinc 2 1, 3) := by decide +kernel
theorem dX4_periodOfBill_32 : decode cX4_periodOfBill 32 = .ok (.iinc 3 1, 3) := by decide +kernel
theorem dX4_periodOfBill_35 : decode cX4_periodOfBill 35 = .ok (.goto (-31), 3) := by decide +kernel
theorem dX4_periodOfBill_38 : decode cX4_periodOfBill 38 = .ok (.iconst 0, 1) := by decide +kernel
theorem dX4_periodOfBill_39 : decode cX4_periodOfBill 39 = .ok (.ireturn, 1) := by decide +kernel
theorem dX4_daysLate_0 : decode cX4_daysLate 0 = .ok (.aload_n 0, 1) := by decide +kernel
theorem dX4_daysLate_1 : decode cX4_daysLate 1 = .ok (.iconst 0, 1) := by decide +kernel
theorem dX4_daysLate_2 : decode cX4_daysLate 2 = .ok (.invokevirtual 148, 3) := by decide +kernel
theorem dX4_daysLate_5 : decode cX4_daysLate 5 = .ok (.istore_n 2, 1) := by decide +kernel
theorem dX4_daysLate_6 : decode cX4_daysLate 6 = .ok (.iload_n 2, 1) := by decide +kernel
theorem dX4_daysLate_7 : decode cX4_daysLate 7 = .ok (.ifCond .ne 7, 3) := by decide +kernel
theorem dX4_daysLate_10 : decode cX4_daysLate 10 = .ok (.iconst 0, 1) := by decide +kernel
theorem dX4_daysLate_11 : decode cX4_daysLate 11 = .ok (.goto 11, 3) := by decide +kernel
theorem dX4_daysLate_14 : decode cX4_daysLate 14 = .ok (.iload_n 1, 1) := by decide +kernel
theorem dX4_daysLate_15 : decode cX4_daysLate 15 = .ok (.aload_n 0, 1) := by decide +kernel
theorem dX4_daysLate_16 : decode cX4_daysLate 16 = .ok (.getfield 9, 3) := by decide +kernel
theorem dX4_daysLate_19 : decode cX4_daysLate 19 = .ok (.iload_n 2, 1) := by decide +kernel
theorem dX4_daysLate_20 : decode cX4_daysLate 20 = .ok (.iaload, 1) := by decide +kernel
theorem dX4_daysLate_21 : decode cX4_daysLate 21 = .ok (.isub, 1) := by decide +kernel
theorem dX4_daysLate_22 : decode cX4_daysLate 22 = .ok (.ireturn, 1) := by decide +kernel
end
section
theorem dX5_init_0 : decode cX5_init 0 = .ok (.aload_n 0, 1) := by decide +kernel
theorem dX5_init_1 : decode cX5_init 1 = .ok (.invokespecial 3, 3) := by decide +kernel
theorem dX5_init_4 : decode cX5_init 4 = .ok (.aload_n 0, 1) := by decide +kernel
theorem dX5_init_5 : decode cX5_init 5 = .ok (.iconst 0, 1) := by decide +kernel
theorem dX5_init_6 : decode cX5_init 6 = .ok (.putfield 9, 3) := by decide +kernel
theorem dX5_init_9 : decode cX5_init 9 = .ok (.aload_n 0, 1) := by decide +kernel
theorem dX5_init_10 : decode cX5_init 10 = .ok (.iconst 0, 1) := by decide +kernel
theorem dX5_init_11 : decode cX5_init 11 = .ok (.putfield 15, 3) := by decide +kernel
theorem dX5_init_14 : decode cX5_init 14 = .ok (.aload_n 0, 1) := by decide +kernel
theorem dX5_init_15 : decode cX5_init 15 = .ok (.bipush 61, 2) := by decide +kernel
theorem dX5_init_17 : decode cX5_init 17 = .ok (.newarray .long, 2) := by decide +kernel
theorem dX5_init_19 : decode cX5_init 19 = .ok (.putfield 18, 3) := by decide +kernel
theorem dX5_init_22 : decode cX5_init 22 = .ok (.aload_n 0, 1) := by decide +kernel
theorem dX5_init_23 : decode cX5_init 23 = .ok (.bipush 61, 2) := by decide +kernel
theorem dX5_init_25 : decode cX5_init 25 = .ok (.newarray .long, 2) := by decide +kernel
theorem dX5_init_27 : decode cX5_init 27 = .ok (.putfield 22, 3) := by decide +kernel
theorem dX5_init_30 : decode cX5_init 30 = .ok (.aload_n 0, 1) := by decide +kernel
theorem dX5_init_31 : decode cX5_init 31 = .ok (.bipush 61, 2) := by decide +kernel
theorem dX5_init_33 : decode cX5_init 33 = .ok (.newarray .long, 2) := by decide +kernel
theorem dX5_init_35 : decode cX5_init 35 = .ok (.putfield 25, 3) := by decide +kernel
theorem dX5_init_38 : decode cX5_init 38 = .ok (.return_, 1) := by decide +kernel
theorem dX5_follow_0 : decode cX5_follow 0 = .ok (.aload_n 0, 1) := by decide +kernel
theorem dX5_follow_1 : decode cX5_follow 1 = .ok (.aload_n 1, 1) := by decide +kernel
theorem dX5_follow_2 : decode cX5_follow 2 = .ok (.getfield 28, 3) := by decide +kernel
theorem dX5_follow_5 : decode cX5_follow 5 = .ok (.putfield 9, 3) := by decide +kernel
theorem dX5_follow_8 : decode cX5_follow 8 = .ok (.aload_n 0, 1) := by decide +kernel
theorem dX5_follow_9 : decode cX5_follow 9 = .ok (.aload_n 1, 1) := by decide +kernel
theorem dX5_follow_10 : decode cX5_follow 10 = .ok (.getfield 31, 3) := by decide +kernel
theorem dX5_follow_13 : decode cX5_follow 13 = .ok (.putfield 15, 3) := by decide +kernel
theorem dX5_follow_16 : decode cX5_follow 16 = .ok (.aload_n 1, 1) := by decide +kernel
theorem dX5_follow_17 : decode cX5_follow 17 = .ok (.getfield 32, 3) := by decide +kernel
theorem dX5_follow_20 : decode cX5_follow 20 = .ok (.lstore_n 2, 1) := by decide +kernel
theorem dX5_follow_21 : decode cX5_follow 21 = .ok (.aload_n 0, 1) := by decide +kernel
theorem dX5_follow_22 : decode cX5_follow 22 = .ok (.getfield 9, 3) := by decide +kernel
theorem dX5_follow_25 : decode cX5_follow 25 = .ok (.iconst 1, 1) := by decide +kernel
theorem dX5_follow_26 : decode cX5_follow 26 = .ok (.iadd, 1) := by decide +kernel
theorem dX5_follow_27 : decode cX5_follow 27 = .ok (.istore 4, 2) := by decide +kernel
theorem dX5_follow_29 : decode cX5_follow 29 = .ok (.iload 4, 2) := by decide +kernel
theorem dX5_follow_31 : decode cX5_follow 31 = .ok (.aload_n 0, 1) := by decide +kernel
theorem dX5_follow_32 : decode cX5_follow 32 = .ok (.getfield 15, 3) := by decide +kernel
theorem dX5_follow_35 : decode cX5_follow 35 = .ok (.if_icmp .gt 62, 3) := by decide +kernel
theorem dX5_follow_38 : decode cX5_follow 38 = .ok (.aload_n 0, 1) := by decide +kernel
theorem dX5_follow_39 : decode cX5_follow 39 = .ok (.getfield 18, 3) := by decide +kernel
theorem dX5_follow_42 : decode cX5_follow 42 = .ok (.iload 4, 2) := by decide +kernel
theorem dX5_follow_44 : decode cX5_follow 44 = .ok (.aload_n 1, 1) := by decide +kernel
theorem dX5_follow_45 : decode cX5_follow 45 = .ok (.iload 4, 2) := by decide +kernel
theorem dX5_follow_47 : decode cX5_follow 47 = .ok (.lload_n 2, 1) := by decide +kernel
theorem dX5_follow_48 : decode cX5_follow 48 = .ok (.invokevirtual 35, 3) := by decide +kernel
theorem dX5_follow_51 : decode cX5_follow 51 = .ok (.lastore, 1) := by decide +kernel
theorem dX5_follow_52 : decode cX5_follow 52 = .ok (.aload_n 0, 1) := by decide +kernel
theorem dX5_follow_53 : decode cX5_follow 53 = .ok (.getfield 22, 3) := by decide +kernel
theorem dX5_follow_56 : decode cX5_follow 56 = .ok (.iload 4, 2) := by decide +kernel
theorem dX5_follow_58 : decode cX5_follow 58 = .ok (.aload_n 1, 1) := by decide +kernel
theorem dX5_follow_59 : decode cX5_follow 59 = .ok (.iload 4, 2) := by decide +kernel
theorem dX5_follow_61 : decode cX5_follow 61 = .ok (.lload_n 2, 1) := by decide +kernel
theorem dX5_follow_62 : decode cX5_follow 62 = .ok (.aload_n 0, 1) := by decide +kernel
theorem dX5_follow_63 : decode cX5_follow 63 = .ok (.getfield 18, 3) := by decide +kernel
theorem dX5_follow_66 : decode cX5_follow 66 = .ok (.iload 4, 2) := by decide +kernel
theorem dX5_follow_68 : decode cX5_follow 68 = .ok (.laload, 1) := by decide +kernel
theorem dX5_follow_69 : decode cX5_follow 69 = .ok (.invokevirtual 39, 3) := by decide +kernel
theorem dX5_follow_72 : decode cX5_follow 72 = .ok (.lastore, 1) := by decide +kernel
theorem dX5_follow_73 : decode cX5_follow 73 = .ok (.lload_n 2, 1) := by decide +kernel
theorem dX5_follow_74 : decode cX5_follow 74 = .ok (.aload_n 0, 1) := by decide +kernel
theorem dX5_follow_75 : decode cX5_follow 75 = .ok (.getfield 22, 3) := by decide +kernel
theorem dX5_follow_78 : decode cX5_follow 78 = .ok (.iload 4, 2) := by decide +kernel
theorem dX5_follow_80 : decode cX5_follow 80 = .ok (.laload, 1) := by decide +kernel
theorem dX5_follow_81 : decode cX5_follow 81 = .ok (.lsub, 1) := by decide +kernel
theorem dX5_follow_82 : decode cX5_follow 82 = .ok (.lstore_n 2, 1) := by decide +kernel
theorem dX5_follow_83 : decode cX5_follow 83 = .ok (.aload_n 0, 1) := by decide +kernel
theorem dX5_follow_84 : decode cX5_follow 84 = .ok (.getfield 25, 3) := by decide +kernel
theorem dX5_follow_87 : decode cX5_follow 87 = .ok (.iload 4, 2) := by decide +kernel
theorem dX5_follow_89 : decode cX5_follow 89 = .ok (.lload_n 2, 1) := by decide +kernel
theorem dX5_follow_90 : decode cX5_follow 90 = .ok (.lastore, 1) := by decide +kernel
theorem dX5_follow_91 : decode cX5_follow 91 = .ok (.iinc 4 1, 3) := by decide +kernel
theorem dX5_follow_94 : decode cX5_follow 94 = .ok (.goto (-65), 3) := by decide +kernel
theorem dX5_follow_97 : decode cX5_follow 97 = .ok (.return_, 1) := by decide +kernel
theorem dX5_flow_0 : decode cX5_flow 0 = .ok (.aload_n 0, 1) := by decide +kernel
theorem dX5_flow_1 : decode cX5_flow 1 = .ok (.getfield 18, 3) := by decide +kernel
theorem dX5_flow_4 : decode cX5_flow 4 = .ok (.iload_n 1, 1) := by decide +kernel
theorem dX5_flow_5 : decode cX5_flow 5 = .ok (.laload, 1) := by decide +kernel
theorem dX5_flow_6 : decode cX5_flow 6 = .ok (.aload_n 0, 1) := by decide +kernel
theorem dX5_flow_7 : decode cX5_flow 7 = .ok (.getfield 22, 3) := by decide +kernel
theorem dX5_flow_10 : decode cX5_flow 10 = .ok (.iload_n 1, 1) := by decide +kernel
theorem dX5_flow_11 : decode cX5_flow 11 = .ok (.laload, 1) := by decide +kernel
theorem dX5_flow_12 : decode cX5_flow 12 = .ok (.ladd, 1) := by decide +kernel
theorem dX5_flow_13 : decode cX5_flow 13 = .ok (.lreturn, 1) := by decide +kernel
theorem dX5_bills_0 : decode cX5_bills 0 = .ok (.iconst 0, 1) := by decide +kernel
theorem dX5_bills_1 : decode cX5_bills 1 = .ok (.istore_n 1, 1) := by decide +kernel
theorem dX5_bills_2 : decode cX5_bills 2 = .ok (.aload_n 0, 1) := by decide +kernel
theorem dX5_bills_3 : decode cX5_bills 3 = .ok (.getfield 9, 3) := by decide +kernel
theorem dX5_bills_6 : decode cX5_bills 6 = .ok (.iconst 1, 1) := by decide +kernel
theorem dX5_bills_7 : decode cX5_bills 7 = .ok (.iadd, 1) := by decide +kernel
theorem dX5_bills_8 : decode cX5_bills 8 = .ok (.istore_n 2, 1) := by decide +kernel
theorem dX5_bills_9 : decode cX5_bills 9 = .ok (.iload_n 2, 1) := by decide +kernel
theorem dX5_bills_10 : decode cX5_bills 10 = .ok (.aload_n 0, 1) := by decide +kernel
theorem dX5_bills_11 : decode cX5_bills 11 = .ok (.getfield 15, 3) := by decide +kernel
theorem dX5_bills_14 : decode cX5_bills 14 = .ok (.if_icmp .gt 22, 3) := by decide +kernel
theorem dX5_bills_17 : decode cX5_bills 17 = .ok (.aload_n 0, 1) := by decide +kernel
theorem dX5_bills_18 : decode cX5_bills 18 = .ok (.iload_n 2, 1) := by decide +kernel
theorem dX5_bills_19 : decode cX5_bills 19 = .ok (.invokevirtual 43, 3) := by decide +kernel
theorem dX5_bills_22 : decode cX5_bills 22 = .ok (.lconst 0, 1) := by decide +kernel
theorem dX5_bills_23 : decode cX5_bills 23 = .ok (.lcmp, 1) := by decide +kernel
theorem dX5_bills_24 : decode cX5_bills 24 = .ok (.ifCond .le 6, 3) := by decide +kernel
theorem dX5_bills_27 : decode cX5_bills 27 = .ok (.iinc 1 1, 3) := by decide +kernel
theorem dX5_bills_30 : decode cX5_bills 30 = .ok (.iinc 2 1, 3) := by decide +kernel
theorem dX5_bills_33 : decode cX5_bills 33 = .ok (.goto (-24), 3) := by decide +kernel
theorem dX5_bills_36 : decode cX5_bills 36 = .ok (.iload_n 1, 1) := by decide +kernel
theorem dX5_bills_37 : decode cX5_bills 37 = .ok (.ireturn, 1) := by decide +kernel
theorem dX5_periodOfBill_0 : decode cX5_periodOfBill 0 = .ok (.iconst 0, 1) := by decide +kernel
theorem dX5_periodOfBill_1 : decode cX5_periodOfBill 1 = .ok (.istore_n 2, 1) := by decide +kernel
theorem dX5_periodOfBill_2 : decode cX5_periodOfBill 2 = .ok (.aload_n 0, 1) := by decide +kernel
theorem dX5_periodOfBill_3 : decode cX5_periodOfBill 3 = .ok (.getfield 9, 3) := by decide +kernel
theorem dX5_periodOfBill_6 : decode cX5_periodOfBill 6 = .ok (.iconst 1, 1) := by decide +kernel
theorem dX5_periodOfBill_7 : decode cX5_periodOfBill 7 = .ok (.iadd, 1) := by decide +kernel
theorem dX5_periodOfBill_8 : decode cX5_periodOfBill 8 = .ok (.istore_n 3, 1) := by decide +kernel
theorem dX5_periodOfBill_9 : decode cX5_periodOfBill 9 = .ok (.iload_n 3, 1) := by decide +kernel
theorem dX5_periodOfBill_10 : decode cX5_periodOfBill 10 = .ok (.aload_n 0, 1) := by decide +kernel
theorem dX5_periodOfBill_11 : decode cX5_periodOfBill 11 = .ok (.getfield 15, 3) := by decide +kernel
theorem dX5_periodOfBill_14 : decode cX5_periodOfBill 14 = .ok (.if_icmp .gt 29, 3) := by decide +kernel
theorem dX5_periodOfBill_17 : decode cX5_periodOfBill 17 = .ok (.aload_n 0, 1) := by decide +kernel
theorem dX5_periodOfBill_18 : decode cX5_periodOfBill 18 = .ok (.iload_n 3, 1) := by decide +kernel
theorem dX5_periodOfBill_19 : decode cX5_periodOfBill 19 = .ok (.invokevirtual 43, 3) := by decide +kernel
theorem dX5_periodOfBill_22 : decode cX5_periodOfBill 22 = .ok (.lconst 0, 1) := by decide +kernel
theorem dX5_periodOfBill_23 : decode cX5_periodOfBill 23 = .ok (.lcmp, 1) := by decide +kernel
theorem dX5_periodOfBill_24 : decode cX5_periodOfBill 24 = .ok (.ifCond .le 13, 3) := by decide +kernel
theorem dX5_periodOfBill_27 : decode cX5_periodOfBill 27 = .ok (.iload_n 2, 1) := by decide +kernel
theorem dX5_periodOfBill_28 : decode cX5_periodOfBill 28 = .ok (.iload_n 1, 1) := by decide +kernel
theorem dX5_periodOfBill_29 : decode cX5_periodOfBill 29 = .ok (.if_icmp .ne 5, 3) := by decide +kernel
theorem dX5_periodOfBill_32 : decode cX5_periodOfBill 32 = .ok (.iload_n 3, 1) := by decide +kernel
theorem dX5_periodOfBill_33 : decode cX5_periodOfBill 33 = .ok (.ireturn, 1) := by decide +kernel
theorem dX5_periodOfBill_34 : decode cX5_periodOfBill 34 = .ok (.iinc 2 1, 3) := by decide +kernel
theorem dX5_periodOfBill_37 : decode cX5_periodOfBill 37 = .ok (.iinc 3 1, 3) := by decide +kernel
theorem dX5_periodOfBill_40 : decode cX5_periodOfBill 40 = .ok (.goto (-31), 3) := by decide +kernel
theorem dX5_periodOfBill_43 : decode cX5_periodOfBill 43 = .ok (.iconst 0, 1) := by decide +kernel
theorem dX5_periodOfBill_44 : decode cX5_periodOfBill 44 = .ok (.ireturn, 1) := by decide +kernel
theorem dX5_totalInterest_0 : decode cX5_totalInterest 0 = .ok (.lconst 0, 1) := by decide +kernel
theorem dX5_totalInterest_1 : decode cX5_totalInterest 1 = .ok (.lstore_n 1, 1) := by decide +kernel
theorem dX5_totalInterest_2 : decode cX5_totalInterest 2 = .ok (.aload_n 0, 1) := by decide +kernel
theorem dX5_totalInterest_3 : decode cX5_totalInterest 3 = .ok (.getfield 9, 3) := by decide +kernel
theorem dX5_totalInterest_6 : decode cX5_totalInterest 6 = .ok (.iconst 1, 1) := by decide +kernel
theorem dX5_totalInterest_7 : decode cX5_totalInterest 7 = .ok (.iadd, 1) := by decide +kernel
theorem dX5_totalInterest_8 : decode cX5_totalInterest 8 = .ok (.istore_n 3, 1) := by decide +kernel
theorem dX5_totalInterest_9 : decode cX5_totalInterest 9 = .ok (.iload_n 3, 1) := by decide +kernel
theorem dX5_totalInterest_10 : decode cX5_totalInterest 10 = .ok (.aload_n 0, 1) := by decide +kernel
theorem dX5_totalInterest_11 : decode cX5_totalInterest 11 = .ok (.getfield 15, 3) := by decide +kernel
theorem dX5_totalInterest_14 : decode cX5_totalInterest 14 = .ok (.if_icmp .gt 18, 3) := by decide +kernel
theorem dX5_totalInterest_17 : decode cX5_totalInterest 17 = .ok (.lload_n 1, 1) := by decide +kernel
theorem dX5_totalInterest_18 : decode cX5_totalInterest 18 = .ok (.aload_n 0, 1) := by decide +kernel
theorem dX5_totalInterest_19 : decode cX5_totalInterest 19 = .ok (.getfield 18, 3) := by decide +kernel
theorem dX5_totalInterest_22 : decode cX5_totalInterest 22 = .ok (.iload_n 3, 1) := by decide +kernel
theorem dX5_totalInterest_23 : decode cX5_totalInterest 23 = .ok (.laload, 1) := by decide +kernel
theorem dX5_totalInterest_24 : decode cX5_totalInterest 24 = .ok (.ladd, 1) := by decide +kernel
theorem dX5_totalInterest_25 : decode cX5_totalInterest 25 = .ok (.lstore_n 1, 1) := by decide +kernel
theorem dX5_totalInterest_26 : decode cX5_totalInterest 26 = .ok (.iinc 3 1, 3) := by decide +kernel
theorem dX5_totalInterest_29 : decode cX5_totalInterest 29 = .ok (.goto (-20), 3) := by decide +kernel
theorem dX5_totalInterest_32 : decode cX5_totalInterest 32 = .ok (.lload_n 1, 1) := by decide +kernel
theorem dX5_totalInterest_33 : decode cX5_totalInterest 33 = .ok (.lreturn, 1) := by decide +kernel
theorem dX5_greatestFlow_0 : decode cX5_greatestFlow 0 = .ok (.lconst 0, 1) := by decide +kernel
theorem dX5_greatestFlow_1 : decode cX5_greatestFlow 1 = .ok (.lstore_n 1, 1) := by decide +kernel
theorem dX5_greatestFlow_2 : decode cX5_greatestFlow 2 = .ok (.aload_n 0, 1) := by decide +kernel
theorem dX5_greatestFlow_3 : decode cX5_greatestFlow 3 = .ok (.getfield 9, 3) := by decide +kernel
theorem dX5_greatestFlow_6 : decode cX5_greatestFlow 6 = .ok (.iconst 1, 1) := by decide +kernel
theorem dX5_greatestFlow_7 : decode cX5_greatestFlow 7 = .ok (.iadd, 1) := by decide +kernel
theorem dX5_greatestFlow_8 : decode cX5_greatestFlow 8 = .ok (.istore_n 3, 1) := by decide +kernel
theorem dX5_greatestFlow_9 : decode cX5_greatestFlow 9 = .ok (.iload_n 3, 1) := by decide +kernel
theorem dX5_greatestFlow_10 : decode cX5_greatestFlow 10 = .ok (.aload_n 0, 1) := by decide +kernel
theorem dX5_greatestFlow_11 : decode cX5_greatestFlow 11 = .ok (.getfield 15, 3) := by decide +kernel
theorem dX5_greatestFlow_14 : decode cX5_greatestFlow 14 = .ok (.if_icmp .gt 19, 3) := by decide +kernel
theorem dX5_greatestFlow_17 : decode cX5_greatestFlow 17 = .ok (.lload_n 1, 1) := by decide +kernel
theorem dX5_greatestFlow_18 : decode cX5_greatestFlow 18 = .ok (.aload_n 0, 1) := by decide +kernel
theorem dX5_greatestFlow_19 : decode cX5_greatestFlow 19 = .ok (.iload_n 3, 1) := by decide +kernel
theorem dX5_greatestFlow_20 : decode cX5_greatestFlow 20 = .ok (.invokevirtual 43, 3) := by decide +kernel
theorem dX5_greatestFlow_23 : decode cX5_greatestFlow 23 = .ok (.invokestatic 47, 3) := by decide +kernel
theorem dX5_greatestFlow_26 : decode cX5_greatestFlow 26 = .ok (.lstore_n 1, 1) := by decide +kernel
theorem dX5_greatestFlow_27 : decode cX5_greatestFlow 27 = .ok (.iinc 3 1, 3) := by decide +kernel
theorem dX5_greatestFlow_30 : decode cX5_greatestFlow 30 = .ok (.goto (-21), 3) := by decide +kernel
theorem dX5_greatestFlow_33 : decode cX5_greatestFlow 33 = .ok (.lload_n 1, 1) := by decide +kernel
theorem dX5_greatestFlow_34 : decode cX5_greatestFlow 34 = .ok (.lreturn, 1) := by decide +kernel
theorem dX5_lastWithPrincipal_0 : decode cX5_lastWithPrincipal 0 = .ok (.iconst 0, 1) := by decide +kernel
theorem dX5_lastWithPrincipal_1 : decode cX5_lastWithPrincipal 1 = .ok (.istore_n 1, 1) := by decide +kernel
theorem dX5_lastWithPrincipal_2 : decode cX5_lastWithPrincipal 2 = .ok (.aload_n 0, 1) := by decide +kernel
theorem dX5_lastWithPrincipal_3 : decode cX5_lastWithPrincipal 3 = .ok (.getfield 9, 3) := by decide +kernel
theorem dX5_lastWithPrincipal_6 : decode cX5_lastWithPrincipal 6 = .ok (.iconst 1, 1) := by decide +kernel
theorem dX5_lastWithPrincipal_7 : decode cX5_lastWithPrincipal 7 = .ok (.iadd, 1) := by decide +kernel
theorem dX5_lastWithPrincipal_8 : decode cX5_lastWithPrincipal 8 = .ok (.istore_n 2, 1) := by decide +kernel
theorem dX5_lastWithPrincipal_9 : decode cX5_lastWithPrincipal 9 = .ok (.iload_n 2, 1) := by decide +kernel
theorem dX5_lastWithPrincipal_10 : decode cX5_lastWithPrincipal 10 = .ok (.aload_n 0, 1) := by decide +kernel
theorem dX5_lastWithPrincipal_11 : decode cX5_lastWithPrincipal 11 = .ok (.getfield 15, 3) := by decide +kernel
theorem dX5_lastWithPrincipal_14 : decode cX5_lastWithPrincipal 14 = .ok (.if_icmp .gt 27, 3) := by decide +kernel
theorem dX5_lastWithPrincipal_17 : decode cX5_lastWithPrincipal 17 = .ok (.aload_n 0, 1) := by decide +kernel
theorem dX5_lastWithPrincipal_18 : decode cX5_lastWithPrincipal 18 = .ok (.getfield 22, 3) := by decide +kernel
theorem dX5_lastWithPrincipal_21 : decode cX5_lastWithPrincipal 21 = .ok (.iload_n 2, 1) := by decide +kernel
theorem dX5_lastWithPrincipal_22 : decode cX5_lastWithPrincipal 22 = .ok (.laload, 1) := by decide +kernel
theorem dX5_lastWithPrincipal_23 : decode cX5_lastWithPrincipal 23 = .ok (.lconst 0, 1) := by decide +kernel
theorem dX5_lastWithPrincipal_24 : decode cX5_lastWithPrincipal 24 = .ok (.lcmp, 1) := by decide +kernel
theorem dX5_lastWithPrincipal_25 : decode cX5_lastWithPrincipal 25 = .ok (.ifCond .le 10, 3) := by decide +kernel
theorem dX5_lastWithPrincipal_28 : decode cX5_lastWithPrincipal 28 = .ok (.iload_n 2, 1) := by decide +kernel
theorem dX5_lastWithPrincipal_29 : decode cX5_lastWithPrincipal 29 = .ok (.aload_n 0, 1) := by decide +kernel
theorem dX5_lastWithPrincipal_30 : decode cX5_lastWithPrincipal 30 = .ok (.getfield 9, 3) := by decide +kernel
theorem dX5_lastWithPrincipal_33 : decode cX5_lastWithPrincipal 33 = .ok (.isub, 1) := by decide +kernel
theorem dX5_lastWithPrincipal_34 : decode cX5_lastWithPrincipal 34 = .ok (.istore_n 1, 1) := by decide +kernel
theorem dX5_lastWithPrincipal_35 : decode cX5_lastWithPrincipal 35 = .ok (.iinc 2 1, 3) := by decide +kernel
theorem dX5_lastWithPrincipal_38 : decode cX5_lastWithPrincipal 38 = .ok (.goto (-29), 3) := by decide +kernel
theorem dX5_lastWithPrincipal_41 : decode cX5_lastWithPrincipal 41 = .ok (.iload_n 1, 1) := by decide +kernel
theorem dX5_lastWithPrincipal_42 : decode cX5_lastWithPrincipal 42 = .ok (.ireturn, 1) := by decide +kernel
theorem dX5_worth_0 : decode cX5_worth 0 = .ok (.dconst 0, 1) := by decide +kernel
theorem dX5_worth_1 : decode cX5_worth 1 = .ok (.dstore_n 3, 1) := by decide +kernel
theorem dX5_worth_2 : decode cX5_worth 2 = .ok (.aload_n 0, 1) := by decide +kernel
theorem dX5_worth_3 : decode cX5_worth 3 = .ok (.getfield 15, 3) := by decide +kernel
theorem dX5_worth_6 : decode cX5_worth 6 = .ok (.istore 5, 2) := by decide +kernel
theorem dX5_worth_8 : decode cX5_worth 8 = .ok (.iload 5, 2) := by decide +kernel
theorem dX5_worth_10 : decode cX5_worth 10 = .ok (.aload_n 0, 1) := by decide +kernel
theorem dX5_worth_11 : decode cX5_worth 11 = .ok (.getfield 9, 3) := by decide +kernel
theorem dX5_worth_14 : decode cX5_worth 14 = .ok (.if_icmp .le 23, 3) := by decide +kernel
theorem dX5_worth_17 : decode cX5_worth 17 = .ok (.dload_n 3, 1) := by decide +kernel
theorem dX5_worth_18 : decode cX5_worth 18 = .ok (.aload_n 0, 1) := by decide +kernel
theorem dX5_worth_19 : decode cX5_worth 19 = .ok (.iload 5, 2) := by decide +kernel
theorem dX5_worth_21 : decode cX5_worth 21 = .ok (.invokevirtual 43, 3) := by decide +kernel
theorem dX5_worth_24 : decode cX5_worth 24 = .ok (.l2d, 1) := by decide +kernel
theorem dX5_worth_25 : decode cX5_worth 25 = .ok (.dadd, 1) := by decide +kernel
theorem dX5_worth_26 : decode cX5_worth 26 = .ok (.dconst 1, 1) := by decide +kernel
theorem dX5_worth_27 : decode cX5_worth 27 = .ok (.dload_n 1, 1) := by decide +kernel
theorem dX5_worth_28 : decode cX5_worth 28 = .ok (.dadd, 1) := by decide +kernel
theorem dX5_worth_29 : decode cX5_worth 29 = .ok (.ddiv, 1) := by decide +kernel
theorem dX5_worth_30 : decode cX5_worth 30 = .ok (.dstore_n 3, 1) := by decide +kernel
theorem dX5_worth_31 : decode cX5_worth 31 = .ok (.iinc 5 (-1), 3) := by decide +kernel
theorem dX5_worth_34 : decode cX5_worth 34 = .ok (.goto (-26), 3) := by decide +kernel
theorem dX5_worth_37 : decode cX5_worth 37 = .ok (.dload_n 3, 1) := by decide +kernel
theorem dX5_worth_38 : decode cX5_worth 38 = .ok (.dreturn, 1) := by decide +kernel
theorem dX5_worthByNumber_0 : decode cX5_worthByNumber 0 = .ok (.dconst 0, 1) := by decide +kernel
theorem dX5_worthByNumber_1 : decode cX5_worthByNumber 1 = .ok (.dstore_n 3, 1) := by decide +kernel
theorem dX5_worthByNumber_2 : decode cX5_worthByNumber 2 = .ok (.aload_n 0, 1) := by decide +kernel
theorem dX5_worthByNumber_3 : decode cX5_worthByNumber 3 = .ok (.getfield 15, 3) := by decide +kernel
theorem dX5_worthByNumber_6 : decode cX5_worthByNumber 6 = .ok (.istore 5, 2) := by decide +kernel
theorem dX5_worthByNumber_8 : decode cX5_worthByNumber 8 = .ok (.iload 5, 2) := by decide +kernel
theorem dX5_worthByNumber_10 : decode cX5_worthByNumber 10 = .ok (.aload_n 0, 1) := by decide +kernel
theorem dX5_worthByNumber_11 : decode cX5_worthByNumber 11 = .ok (.getfield 9, 3) := by decide +kernel
theorem dX5_worthByNumber_14 : decode cX5_worthByNumber 14 = .ok (.if_icmp .le 32, 3) := by decide +kernel
theorem dX5_worthByNumber_17 : decode cX5_worthByNumber 17 = .ok (.dload_n 3, 1) := by decide +kernel
theorem dX5_worthByNumber_18 : decode cX5_worthByNumber 18 = .ok (.aload_n 0, 1) := by decide +kernel
theorem dX5_worthByNumber_19 : decode cX5_worthByNumber 19 = .ok (.iload 5, 2) := by decide +kernel
theorem dX5_worthByNumber_21 : decode cX5_worthByNumber 21 = .ok (.invokevirtual 43, 3) := by decide +kernel
theorem dX5_worthByNumber_24 : decode cX5_worthByNumber 24 = .ok (.iload 5, 2) := by decide +kernel
theorem dX5_worthByNumber_26 : decode cX5_worthByNumber 26 = .ok (.aload_n 0, 1) := by decide +kernel
theorem dX5_worthByNumber_27 : decode cX5_worthByNumber 27 = .ok (.getfield 9, 3) := by decide +kernel
theorem dX5_worthByNumber_30 : decode cX5_worthByNumber 30 = .ok (.isub, 1) := by decide +kernel
theorem dX5_worthByNumber_31 : decode cX5_worthByNumber 31 = .ok (.i2l, 1) := by decide +kernel
theorem dX5_worthByNumber_32 : decode cX5_worthByNumber 32 = .ok (.lmul, 1) := by decide +kernel
theorem dX5_worthByNumber_33 : decode cX5_worthByNumber 33 = .ok (.l2d, 1) := by decide +kernel
theorem dX5_worthByNumber_34 : decode cX5_worthByNumber 34 = .ok (.dadd, 1) := by decide +kernel
theorem dX5_worthByNumber_35 : decode cX5_worthByNumber 35 = .ok (.dconst 1, 1) := by decide +kernel
theorem dX5_worthByNumber_36 : decode cX5_worthByNumber 36 = .ok (.dload_n 1, 1) := by decide +kernel
theorem dX5_worthByNumber_37 : decode cX5_worthByNumber 37 = .ok (.dadd, 1) := by decide +kernel
theorem dX5_worthByNumber_38 : decode cX5_worthByNumber 38 = .ok (.ddiv, 1) := by decide +kernel
theorem dX5_worthByNumber_39 : decode cX5_worthByNumber 39 = .ok (.dstore_n 3, 1) := by decide +kernel
theorem dX5_worthByNumber_40 : decode cX5_worthByNumber 40 = .ok (.iinc 5 (-1), 3) := by decide +kernel
theorem dX5_worthByNumber_43 : decode cX5_worthByNumber 43 = .ok (.goto (-35), 3) := by decide +kernel
theorem dX5_worthByNumber_46 : decode cX5_worthByNumber 46 = .ok (.dload_n 3, 1) := by decide +kernel
theorem dX5_worthByNumber_47 : decode cX5_worthByNumber 47 = .ok (.dreturn, 1) := by decide +kernel
theorem dX5_yieldBy_0 : decode cX5_yieldBy 0 = .ok (.dconst 0, 1) := by decide +kernel
theorem dX5_yieldBy_1 : decode cX5_yieldBy 1 = .ok (.dstore_n 3, 1) := by decide +kernel
theorem dX5_yieldBy_2 : decode cX5_yieldBy 2 = .ok (.dconst 1, 1) := by decide +kernel
theorem dX5_yieldBy_3 : decode cX5_yieldBy 3 = .ok (.dstore 5, 2) := by decide +kernel
theorem dX5_yieldBy_5 : decode cX5_yieldBy 5 = .ok (.iconst 0, 1) := by decide +kernel
theorem dX5_yieldBy_6 : decode cX5_yieldBy 6 = .ok (.istore 7, 2) := by decide +kernel
theorem dX5_yieldBy_8 : decode cX5_yieldBy 8 = .ok (.iload 7, 2) := by decide +kernel
theorem dX5_yieldBy_10 : decode cX5_yieldBy 10 = .ok (.bipush 50, 2) := by decide +kernel
theorem dX5_yieldBy_12 : decode cX5_yieldBy 12 = .ok (.if_icmp .ge 40, 3) := by decide +kernel
theorem dX5_yieldBy_15 : decode cX5_yieldBy 15 = .ok (.dload_n 3, 1) := by decide +kernel
theorem dX5_yieldBy_16 : decode cX5_yieldBy 16 = .ok (.dload 5, 2) := by decide +kernel
theorem dX5_yieldBy_18 : decode cX5_yieldBy 18 = .ok (.dadd, 1) := by decide +kernel
theorem dX5_yieldBy_19 : decode cX5_yieldBy 19 = .ok (.ldc2_w 53, 3) := by decide +kernel
theorem dX5_yieldBy_22 : decode cX5_yieldBy 22 = .ok (.ddiv, 1) := by decide +kernel
theorem dX5_yieldBy_23 : decode cX5_yieldBy 23 = .ok (.dstore 8, 2) := by decide +kernel
theorem dX5_yieldBy_25 : decode cX5_yieldBy 25 = .ok (.aload_n 0, 1) := by decide +kernel
theorem dX5_yieldBy_26 : decode cX5_yieldBy 26 = .ok (.dload 8, 2) := by decide +kernel
theorem dX5_yieldBy_28 : decode cX5_yieldBy 28 = .ok (.invokevirtual 55, 3) := by decide +kernel
theorem dX5_yieldBy_31 : decode cX5_yieldBy 31 = .ok (.dload_n 1, 1) := by decide +kernel
theorem dX5_yieldBy_32 : decode cX5_yieldBy 32 = .ok (.dcmp .l, 1) := by decide +kernel
theorem dX5_yieldBy_33 : decode cX5_yieldBy 33 = .ok (.ifCond .le 9, 3) := by decide +kernel
theorem dX5_yieldBy_36 : decode cX5_yieldBy 36 = .ok (.dload 8, 2) := by decide +kernel
theorem dX5_yieldBy_38 : decode cX5_yieldBy 38 = .ok (.dstore_n 3, 1) := by decide +kernel
theorem dX5_yieldBy_39 : decode cX5_yieldBy 39 = .ok (.goto 7, 3) := by decide +kernel
theorem dX5_yieldBy_42 : decode cX5_yieldBy 42 = .ok (.dload 8, 2) := by decide +kernel
theorem dX5_yieldBy_44 : decode cX5_yieldBy 44 = .ok (.dstore 5, 2) := by decide +kernel
theorem dX5_yieldBy_46 : decode cX5_yieldBy 46 = .ok (.iinc 7 1, 3) := by decide +kernel
theorem dX5_yieldBy_49 : decode cX5_yieldBy 49 = .ok (.goto (-41), 3) := by decide +kernel
theorem dX5_yieldBy_52 : decode cX5_yieldBy 52 = .ok (.dload_n 3, 1) := by decide +kernel
theorem dX5_yieldBy_53 : decode cX5_yieldBy 53 = .ok (.dreturn, 1) := by decide +kernel
end
section
theorem dX6_init_0 : decode cX6_init 0 = .ok (.aload_n 0, 1) := by decide +kernel
theorem dX6_init_1 : decode cX6_init 1 = .ok (.invokespecial 3, 3) := by decide +kernel
theorem dX6_init_4 : decode cX6_init 4 = .ok (.aload_n 0, 1) := by decide +kernel
theorem dX6_init_5 : decode cX6_init 5 = .ok (.iconst 0, 1) := by decide +kernel
theorem dX6_init_6 : decode cX6_init 6 = .ok (.putfield 9, 3) := by decide +kernel
theorem dX6_init_9 : decode cX6_init 9 = .ok (.aload_n 0, 1) := by decide +kernel
theorem dX6_init_10 : decode cX6_init 10 = .ok (.iconst 0, 1) := by decide +kernel
theorem dX6_init_11 : decode cX6_init 11 = .ok (.putfield 15, 3) := by decide +kernel
theorem dX6_init_14 : decode cX6_init 14 = .ok (.aload_n 0, 1) := by decide +kernel
theorem dX6_init_15 : decode cX6_init 15 = .ok (.iconst (-1), 1) := by decide +kernel
theorem dX6_init_16 : decode cX6_init 16 = .ok (.putfield 18, 3) := by decide +kernel
theorem dX6_init_19 : decode cX6_init 19 = .ok (.aload_n 0, 1) := by decide +kernel
theorem dX6_init_20 : decode cX6_init 20 = .ok (.bipush 120, 2) := by decide +kernel
theorem dX6_init_22 : decode cX6_init 22 = .ok (.newarray .int, 2) := by decide +kernel
theorem dX6_init_24 : decode cX6_init 24 = .ok (.putfield 21, 3) := by decide +kernel
theorem dX6_init_27 : decode cX6_init 27 = .ok (.aload_n 0, 1) := by decide +kernel
theorem dX6_init_28 : decode cX6_init 28 = .ok (.bipush 6, 2) := by decide +kernel
theorem dX6_init_30 : decode cX6_init 30 = .ok (.newarray .int, 2) := by decide +kernel
theorem dX6_init_32 : decode cX6_init 32 = .ok (.putfield 25, 3) := by decide +kernel
theorem dX6_init_35 : decode cX6_init 35 = .ok (.return_, 1) := by decide +kernel
theorem dX6_placeOfFault_0 : decode cX6_placeOfFault 0 = .ok (.aload_n 0, 1) := by decide +kernel
theorem dX6_placeOfFault_1 : decode cX6_placeOfFault 1 = .ok (.iconst 0, 1) := by decide +kernel
theorem dX6_placeOfFault_2 : decode cX6_placeOfFault 2 = .ok (.putfield 15, 3) := by decide +kernel
theorem dX6_placeOfFault_5 : decode cX6_placeOfFault 5 = .ok (.iconst 0, 1) := by decide +kernel
theorem dX6_placeOfFault_6 : decode cX6_placeOfFault 6 = .ok (.istore_n 1, 1) := by decide +kernel
theorem dX6_placeOfFault_7 : decode cX6_placeOfFault 7 = .ok (.iload_n 1, 1) := by decide +kernel
theorem dX6_placeOfFault_8 : decode cX6_placeOfFault 8 = .ok (.bipush 120, 2) := by decide +kernel
theorem dX6_placeOfFault_10 : decode cX6_placeOfFault 10 = .ok (.if_icmp .ge 58, 3) := by decide +kernel
theorem dX6_placeOfFault_13 : decode cX6_placeOfFault 13 = .ok (.aload_n 0, 1) := by decide +kernel
theorem dX6_placeOfFault_14 : decode cX6_placeOfFault 14 = .ok (.invokevirtual 28, 3) := by decide +kernel
theorem dX6_placeOfFault_17 : decode cX6_placeOfFault 17 = .ok (.ifCond .ne 8, 3) := by decide +kernel
theorem dX6_placeOfFault_20 : decode cX6_placeOfFault 20 = .ok (.aload_n 0, 1) := by decide +kernel
theorem dX6_placeOfFault_21 : decode cX6_placeOfFault 21 = .ok (.getfield 15, 3) := by decide +kernel
theorem dX6_placeOfFault_24 : decode cX6_placeOfFault 24 = .ok (.ireturn, 1) := by decide +kernel
theorem dX6_placeOfFault_25 : decode cX6_placeOfFault 25 = .ok (.aload_n 0, 1) := by decide +kernel
theorem dX6_placeOfFault_26 : decode cX6_placeOfFault 26 = .ok (.getfield 15, 3) := by decide +kernel
theorem dX6_placeOfFault_29 : decode cX6_placeOfFault 29 = .ok (.aload_n 0, 1) := by decide +kernel
theorem dX6_placeOfFault_30 : decode cX6_placeOfFault 30 = .ok (.getfield 9, 3) := by decide +kernel
theorem dX6_placeOfFault_33 : decode cX6_placeOfFault 33 = .ok (.if_icmp .lt 5, 3) := by decide +kernel
theorem dX6_placeOfFault_36 : decode cX6_placeOfFault 36 = .ok (.iconst (-1), 1) := by decide +kernel
theorem dX6_placeOfFault_37 : decode cX6_placeOfFault 37 = .ok (.ireturn, 1) := by decide +kernel
theorem dX6_placeOfFault_38 : decode cX6_placeOfFault 38 = .ok (.aload_n 0, 1) := by decide +kernel
theorem dX6_placeOfFault_39 : decode cX6_placeOfFault 39 = .ok (.invokevirtual 32, 3) := by decide +kernel
theorem dX6_placeOfFault_42 : decode cX6_placeOfFault 42 = .ok (.bipush 59, 2) := by decide +kernel
theorem dX6_placeOfFault_44 : decode cX6_placeOfFault 44 = .ok (.if_icmp .eq 8, 3) := by decide +kernel
theorem dX6_placeOfFault_47 : decode cX6_placeOfFault 47 = .ok (.aload_n 0, 1) := by decide +kernel
theorem dX6_placeOfFault_48 : decode cX6_placeOfFault 48 = .ok (.getfield 15, 3) := by decide +kernel
theorem dX6_placeOfFault_51 : decode cX6_placeOfFault 51 = .ok (.ireturn, 1) := by decide +kernel
theorem dX6_placeOfFault_52 : decode cX6_placeOfFault 52 = .ok (.aload_n 0, 1) := by decide +kernel
theorem dX6_placeOfFault_53 : decode cX6_placeOfFault 53 = .ok (.dup, 1) := by decide +kernel
theorem dX6_placeOfFault_54 : decode cX6_placeOfFault 54 = .ok (.getfield 15, 3) := by decide +kernel
theorem dX6_placeOfFault_57 : decode cX6_placeOfFault 57 = .ok (.iconst 1, 1) := by decide +kernel
theorem dX6_placeOfFault_58 : decode cX6_placeOfFault 58 = .ok (.iadd, 1) := by decide +kernel
theorem dX6_placeOfFault_59 : decode cX6_placeOfFault 59 = .ok (.putfield 15, 3) := by decide +kernel
theorem dX6_placeOfFault_62 : decode cX6_placeOfFault 62 = .ok (.iinc 1 1, 3) := by decide +kernel
theorem dX6_placeOfFault_65 : decode cX6_placeOfFault 65 = .ok (.goto (-58), 3) := by decide +kernel
theorem dX6_placeOfFault_68 : decode cX6_placeOfFault 68 = .ok (.aload_n 0, 1) := by decide +kernel
theorem dX6_placeOfFault_69 : decode cX6_placeOfFault 69 = .ok (.getfield 15, 3) := by decide +kernel
theorem dX6_placeOfFault_72 : decode cX6_placeOfFault 72 = .ok (.ireturn, 1) := by decide +kernel
theorem dX6_readLine_0 : decode cX6_readLine 0 = .ok (.aload_n 0, 1) := by decide +kernel
theorem dX6_readLine_1 : decode cX6_readLine 1 = .ok (.aload_n 0, 1) := by decide +kernel
theorem dX6_readLine_2 : decode cX6_readLine 2 = .ok (.invokevirtual 32, 3) := by decide +kernel
theorem dX6_readLine_5 : decode cX6_readLine 5 = .ok (.putfield 18, 3) := by decide +kernel
theorem dX6_readLine_8 : decode cX6_readLine 8 = .ok (.aload_n 0, 1) := by decide +kernel
theorem dX6_readLine_9 : decode cX6_readLine 9 = .ok (.getfield 18, 3) := by decide +kernel
theorem dX6_readLine_12 : decode cX6_readLine 12 = .ok (.invokestatic 36, 3) := by decide +kernel
theorem dX6_readLine_15 : decode cX6_readLine 15 = .ok (.istore_n 1, 1) := by decide +kernel
theorem dX6_readLine_16 : decode cX6_readLine 16 = .ok (.iload_n 1, 1) := by decide +kernel
theorem dX6_readLine_17 : decode cX6_readLine 17 = .ok (.ifCond .ne 5, 3) := by decide +kernel
theorem dX6_readLine_20 : decode cX6_readLine 20 = .ok (.iconst 0, 1) := by decide +kernel
theorem dX6_readLine_21 : decode cX6_readLine 21 = .ok (.ireturn, 1) := by decide +kernel
theorem dX6_readLine_22 : decode cX6_readLine 22 = .ok (.aload_n 0, 1) := by decide +kernel
theorem dX6_readLine_23 : decode cX6_readLine 23 = .ok (.dup, 1) := by decide +kernel
theorem dX6_readLine_24 : decode cX6_readLine 24 = .ok (.getfield 15, 3) := by decide +kernel
theorem dX6_readLine_27 : decode cX6_readLine 27 = .ok (.iconst 1, 1) := by decide +kernel
theorem dX6_readLine_28 : decode cX6_readLine 28 = .ok (.iadd, 1) := by decide +kernel
theorem dX6_readLine_29 : decode cX6_readLine 29 = .ok (.putfield 15, 3) := by decide +kernel
theorem dX6_readLine_32 : decode cX6_readLine 32 = .ok (.iconst 0, 1) := by decide +kernel
theorem dX6_readLine_33 : decode cX6_readLine 33 = .ok (.istore_n 2, 1) := by decide +kernel
theorem dX6_readLine_34 : decode cX6_readLine 34 = .ok (.iload_n 2, 1) := by decide +kernel
theorem dX6_readLine_35 : decode cX6_readLine 35 = .ok (.iload_n 1, 1) := by decide +kernel
theorem dX6_readLine_36 : decode cX6_readLine 36 = .ok (.if_icmp .ge 19, 3) := by decide +kernel
theorem dX6_readLine_39 : decode cX6_readLine 39 = .ok (.aload_n 0, 1) := by decide +kernel
theorem dX6_readLine_40 : decode cX6_readLine 40 = .ok (.iload_n 2, 1) := by decide +kernel
theorem dX6_readLine_41 : decode cX6_readLine 41 = .ok (.invokevirtual 40, 3) := by decide +kernel
theorem dX6_readLine_44 : decode cX6_readLine 44 = .ok (.ifCond .ne 5, 3) := by decide +kernel
theorem dX6_readLine_47 : decode cX6_readLine 47 = .ok (.iconst 0, 1) := by decide +kernel
theorem dX6_readLine_48 : decode cX6_readLine 48 = .ok (.ireturn, 1) := by decide +kernel
theorem dX6_readLine_49 : decode cX6_readLine 49 = .ok (.iinc 2 1, 3) := by decide +kernel
theorem dX6_readLine_52 : decode cX6_readLine 52 = .ok (.goto (-18), 3) := by decide +kernel
theorem dX6_readLine_55 : decode cX6_readLine 55 = .ok (.iconst 1, 1) := by decide +kernel
theorem dX6_readLine_56 : decode cX6_readLine 56 = .ok (.ireturn, 1) := by decide +kernel
theorem dX6_readNumber_0 : decode cX6_readNumber 0 = .ok (.aload_n 0, 1) := by decide +kernel
theorem dX6_readNumber_1 : decode cX6_readNumber 1 = .ok (.invokevirtual 32, 3) := by decide +kernel
theorem dX6_readNumber_4 : decode cX6_readNumber 4 = .ok (.bipush 32, 2) := by decide +kernel
theorem dX6_readNumber_6 : decode cX6_readNumber 6 = .ok (.if_icmp .eq 5, 3) := by decide +kernel
theorem dX6_readNumber_9 : decode cX6_readNumber 9 = .ok (.iconst 0, 1) := by decide +kernel
theorem dX6_readNumber_10 : decode cX6_readNumber 10 = .ok (.ireturn, 1) := by decide +kernel
theorem dX6_readNumber_11 : decode cX6_readNumber 11 = .ok (.aload_n 0, 1) := by decide +kernel
theorem dX6_readNumber_12 : decode cX6_readNumber 12 = .ok (.dup, 1) := by decide +kernel
theorem dX6_readNumber_13 : decode cX6_readNumber 13 = .ok (.getfield 15, 3) := by decide +kernel
theorem dX6_readNumber_16 : decode cX6_readNumber 16 = .ok (.iconst 1, 1) := by decide +kernel
theorem dX6_readNumber_17 : decode cX6_readNumber 17 = .ok (.iadd, 1) := by decide +kernel
theorem dX6_readNumber_18 : decode cX6_readNumber 18 = .ok (.putfield 15, 3) := by decide +kernel
theorem dX6_readNumber_21 : decode cX6_readNumber 21 = .ok (.iconst 0, 1) := by decide +kernel
theorem dX6_readNumber_22 : decode cX6_readNumber 22 = .ok (.istore_n 2, 1) := by decide +kernel
theorem dX6_readNumber_23 : decode cX6_readNumber 23 = .ok (.iconst 0, 1) := by decide +kernel
theorem dX6_readNumber_24 : decode cX6_readNumber 24 = .ok (.istore_n 3, 1) := by decide +kernel
theorem dX6_readNumber_25 : decode cX6_readNumber 25 = .ok (.iload_n 3, 1) := by decide +kernel
theorem dX6_readNumber_26 : decode cX6_readNumber 26 = .ok (.bipush 9, 2) := by decide +kernel
theorem dX6_readNumber_28 : decode cX6_readNumber 28 = .ok (.if_icmp .ge 50, 3) := by decide +kernel
theorem dX6_readNumber_31 : decode cX6_readNumber 31 = .ok (.aload_n 0, 1) := by decide +kernel
theorem dX6_readNumber_32 : decode cX6_readNumber 32 = .ok (.invokevirtual 32, 3) := by decide +kernel
theorem dX6_readNumber_35 : decode cX6_readNumber 35 = .ok (.bipush 48, 2) := by decide +kernel
theorem dX6_readNumber_37 : decode cX6_readNumber 37 = .ok (.if_icmp .lt 41, 3) := by decide +kernel
theorem dX6_readNumber_40 : decode cX6_readNumber 40 = .ok (.aload_n 0, 1) := by decide +kernel
theorem dX6_readNumber_41 : decode cX6_readNumber 41 = .ok (.invokevirtual 32, 3) := by decide +kernel
theorem dX6_readNumber_44 : decode cX6_readNumber 44 = .ok (.bipush 57, 2) := by decide +kernel
theorem dX6_readNumber_46 : decode cX6_readNumber 46 = .ok (.if_icmp .gt 32, 3) := by decide +kernel
theorem dX6_readNumber_49 : decode cX6_readNumber 49 = .ok (.iload_n 2, 1) := by decide +kernel
theorem dX6_readNumber_50 : decode cX6_readNumber 50 = .ok (.bipush 10, 2) := by decide +kernel
theorem dX6_readNumber_52 : decode cX6_readNumber 52 = .ok (.imul, 1) := by decide +kernel
theorem dX6_readNumber_53 : decode cX6_readNumber 53 = .ok (.aload_n 0, 1) := by decide +kernel
theorem dX6_readNumber_54 : decode cX6_readNumber 54 = .ok (.invokevirtual 32, 3) := by decide +kernel
theorem dX6_readNumber_57 : decode cX6_readNumber 57 = .ok (.iadd, 1) := by decide +kernel
theorem dX6_readNumber_58 : decode cX6_readNumber 58 = .ok (.bipush 48, 2) := by decide +kernel
theorem dX6_readNumber_60 : decode cX6_readNumber 60 = .ok (.isub, 1) := by decide +kernel
theorem dX6_readNumber_61 : decode cX6_readNumber 61 = .ok (.istore_n 2, 1) := by decide +kernel
theorem dX6_readNumber_62 : decode cX6_readNumber 62 = .ok (.iinc 3 1, 3) := by decide +kernel
theorem dX6_readNumber_65 : decode cX6_readNumber 65 = .ok (.aload_n 0, 1) := by decide +kernel
theorem dX6_readNumber_66 : decode cX6_readNumber 66 = .ok (.dup, 1) := by decide +kernel
theorem dX6_readNumber_67 : decode cX6_readNumber 67 = .ok (.getfield 15, 3) := by decide +kernel
theorem dX6_readNumber_70 : decode cX6_readNumber 70 = .ok (.iconst 1, 1) := by decide +kernel
theorem dX6_readNumber_71 : decode cX6_readNumber 71 = .ok (.iadd, 1) := by decide +kernel
theorem dX6_readNumber_72 : decode cX6_readNumber 72 = .ok (.putfield 15, 3) := by decide +kernel
theorem dX6_readNumber_75 : decode cX6_readNumber 75 = .ok (.goto (-50), 3) := by decide +kernel
theorem dX6_readNumber_78 : decode cX6_readNumber 78 = .ok (.aload_n 0, 1) := by decide +kernel
theorem dX6_readNumber_79 : decode cX6_readNumber 79 = .ok (.getfield 25, 3) := by decide +kernel
theorem dX6_readNumber_82 : decode cX6_readNumber 82 = .ok (.iload_n 1, 1) := by decide +kernel
theorem dX6_readNumber_83 : decode cX6_readNumber 83 = .ok (.iload_n 2, 1) := by decide +kernel
theorem dX6_readNumber_84 : decode cX6_readNumber 84 = .ok (.iastore, 1) := by decide +kernel
theorem dX6_readNumber_85 : decode cX6_readNumber 85 = .ok (.iload_n 3, 1) := by decide +kernel
theorem dX6_readNumber_86 : decode cX6_readNumber 86 = .ok (.ifCond .le 7, 3) := by decide +kernel
theorem dX6_readNumber_89 : decode cX6_readNumber 89 = .ok (.iconst 1, 1) := by decide +kernel
theorem dX6_readNumber_90 : decode cX6_readNumber 90 = .ok (.goto 4, 3) := by decide +kernel
theorem dX6_readNumber_93 : decode cX6_readNumber 93 = .ok (.iconst 0, 1) := by decide +kernel
theorem dX6_readNumber_94 : decode cX6_readNumber 94 = .ok (.ireturn, 1) := by decide +kernel
theorem dX6_here_0 : decode cX6_here 0 = .ok (.aload_n 0, 1) := by decide +kernel
theorem dX6_here_1 : decode cX6_here 1 = .ok (.getfield 15, 3) := by decide +kernel
theorem dX6_here_4 : decode cX6_here 4 = .ok (.ifCond .lt 26, 3) := by decide +kernel
theorem dX6_here_7 : decode cX6_here 7 = .ok (.aload_n 0, 1) := by decide +kernel
theorem dX6_here_8 : decode cX6_here 8 = .ok (.getfield 15, 3) := by decide +kernel
theorem dX6_here_11 : decode cX6_here 11 = .ok (.aload_n 0, 1) := by decide +kernel
theorem dX6_here_12 : decode cX6_here 12 = .ok (.getfield 9, 3) := by decide +kernel
theorem dX6_here_15 : decode cX6_here 15 = .ok (.if_icmp .ge 15, 3) := by decide +kernel
theorem dX6_here_18 : decode cX6_here 18 = .ok (.aload_n 0, 1) := by decide +kernel
theorem dX6_here_19 : decode cX6_here 19 = .ok (.getfield 21, 3) := by decide +kernel
theorem dX6_here_22 : decode cX6_here 22 = .ok (.aload_n 0, 1) := by decide +kernel
theorem dX6_here_23 : decode cX6_here 23 = .ok (.getfield 15, 3) := by decide +kernel
theorem dX6_here_26 : decode cX6_here 26 = .ok (.iaload, 1) := by decide +kernel
theorem dX6_here_27 : decode cX6_here 27 = .ok (.goto 4, 3) := by decide +kernel
theorem dX6_here_30 : decode cX6_here 30 = .ok (.iconst (-1), 1) := by decide +kernel
theorem dX6_here_31 : decode cX6_here 31 = .ok (.ireturn, 1) := by decide +kernel
theorem dX6_numbersOf_0 : decode cX6_numbersOf 0 = .ok (.iload_n 0, 1) := by decide +kernel
theorem dX6_numbersOf_1 : decode cX6_numbersOf 1 = .ok (.tableswitch 102 100 119 #[100, 102, 100, 100, 102, 102, 102, 102, 95, 102, 102, 102, 98, 102, 98, 102, 102, 102, 102, 100], 95) := by decide +kernel
theorem dX6_numbersOf_96 : decode cX6_numbersOf 96 = .ok (.bipush 6, 2) := by decide +kernel
theorem dX6_numbersOf_98 : decode cX6_numbersOf 98 = .ok (.ireturn, 1) := by decide +kernel
theorem dX6_numbersOf_99 : decode cX6_numbersOf 99 = .ok (.iconst 2, 1) := by decide +kernel
theorem dX6_numbersOf_100 : decode cX6_numbersOf 100 = .ok (.ireturn, 1) := by decide +kernel
theorem dX6_numbersOf_101 : decode cX6_numbersOf 101 = .ok (.iconst 1, 1) := by decide +kernel
theorem dX6_numbersOf_102 : decode cX6_numbersOf 102 = .ok (.ireturn, 1) := by decide +kernel
theorem dX6_numbersOf_103 : decode cX6_numbersOf 103 = .ok (.iconst 0, 1) := by decide +kernel
theorem dX6_numbersOf_104 : decode cX6_numbersOf 104 = .ok (.ireturn, 1) := by decide +kernel
end
section
theorem dX7_init_0 : decode cX7_init 0 = .ok (.aload_n 0, 1) := by decide +kernel
theorem dX7_init_1 : decode cX7_init 1 = .ok (.invokespecial 1, 3) := by decide +kernel
theorem dX7_init_4 : decode cX7_init 4 = .ok (.aload_n 0, 1) := by decide +kernel
theorem dX7_init_5 : decode cX7_init 5 = .ok (.new 7, 3) := by decide +kernel
theorem dX7_init_8 : decode cX7_init 8 = .ok (.dup, 1) := by decide +kernel
theorem dX7_init_9 : decode cX7_init 9 = .ok (.invokespecial 9, 3) := by decide +kernel
theorem dX7_init_12 : decode cX7_init 12 = .ok (.putfield 10, 3) := by decide +kernel
theorem dX7_init_15 : decode cX7_init 15 = .ok (.aload_n 0, 1) := by decide +kernel
theorem dX7_init_16 : decode cX7_init 16 = .ok (.new 7, 3) := by decide +kernel
theorem dX7_init_19 : decode cX7_init 19 = .ok (.dup, 1) := by decide +kernel
theorem dX7_init_20 : decode cX7_init 20 = .ok (.invokespecial 9, 3) := by decide +kernel
theorem dX7_init_23 : decode cX7_init 23 = .ok (.putfield 16, 3) := by decide +kernel
theorem dX7_init_26 : decode cX7_init 26 = .ok (.aload_n 0, 1) := by decide +kernel
theorem dX7_init_27 : decode cX7_init 27 = .ok (.new 7, 3) := by decide +kernel
theorem dX7_init_30 : decode cX7_init 30 = .ok (.dup, 1) := by decide +kernel
theorem dX7_init_31 : decode cX7_init 31 = .ok (.invokespecial 9, 3) := by decide +kernel
theorem dX7_init_34 : decode cX7_init 34 = .ok (.putfield 19, 3) := by decide +kernel
theorem dX7_init_37 : decode cX7_init 37 = .ok (.aload_n 0, 1) := by decide +kernel
theorem dX7_init_38 : decode cX7_init 38 = .ok (.iconst 0, 1) := by decide +kernel
theorem dX7_init_39 : decode cX7_init 39 = .ok (.putfield 22, 3) := by decide +kernel
theorem dX7_init_42 : decode cX7_init 42 = .ok (.aload_n 0, 1) := by decide +kernel
theorem dX7_init_43 : decode cX7_init 43 = .ok (.new 26, 3) := by decide +kernel
theorem dX7_init_46 : decode cX7_init 46 = .ok (.dup, 1) := by decide +kernel
theorem dX7_init_47 : decode cX7_init 47 = .ok (.invokespecial 28, 3) := by decide +kernel
theorem dX7_init_50 : decode cX7_init 50 = .ok (.putfield 29, 3) := by decide +kernel
theorem dX7_init_53 : decode cX7_init 53 = .ok (.aload_n 0, 1) := by decide +kernel
theorem dX7_init_54 : decode cX7_init 54 = .ok (.new 33, 3) := by decide +kernel
theorem dX7_init_57 : decode cX7_init 57 = .ok (.dup, 1) := by decide +kernel
theorem dX7_init_58 : decode cX7_init 58 = .ok (.invokespecial 35, 3) := by decide +kernel
theorem dX7_init_61 : decode cX7_init 61 = .ok (.putfield 36, 3) := by decide +kernel
theorem dX7_init_64 : decode cX7_init 64 = .ok (.aload_n 0, 1) := by decide +kernel
theorem dX7_init_65 : decode cX7_init 65 = .ok (.new 40, 3) := by decide +kernel
theorem dX7_init_68 : decode cX7_init 68 = .ok (.dup, 1) := by decide +kernel
theorem dX7_init_69 : decode cX7_init 69 = .ok (.invokespecial 42, 3) := by decide +kernel
theorem dX7_init_72 : decode cX7_init 72 = .ok (.putfield 43, 3) := by decide +kernel
theorem dX7_init_75 : decode cX7_init 75 = .ok (.aload_n 0, 1) := by decide +kernel
theorem dX7_init_76 : decode cX7_init 76 = .ok (.bipush 6, 2) := by decide +kernel
theorem dX7_init_78 : decode cX7_init 78 = .ok (.anewarray 47, 3) := by decide +kernel
theorem dX7_init_81 : decode cX7_init 81 = .ok (.putfield 49, 3) := by decide +kernel
theorem dX7_init_84 : decode cX7_init 84 = .ok (.iconst 0, 1) := by decide +kernel
theorem dX7_init_85 : decode cX7_init 85 = .ok (.istore_n 1, 1) := by decide +kernel
theorem dX7_init_86 : decode cX7_init 86 = .ok (.iload_n 1, 1) := by decide +kernel
theorem dX7_init_87 : decode cX7_init 87 = .ok (.bipush 6, 2) := by decide +kernel
theorem dX7_init_89 : decode cX7_init 89 = .ok (.if_icmp .ge 22, 3) := by decide +kernel
theorem dX7_init_92 : decode cX7_init 92 = .ok (.aload_n 0, 1) := by decide +kernel
theorem dX7_init_93 : decode cX7_init 93 = .ok (.getfield 49, 3) := by decide +kernel
theorem dX7_init_96 : decode cX7_init 96 = .ok (.iload_n 1, 1) := by decide +kernel
theorem dX7_init_97 : decode cX7_init 97 = .ok (.new 47, 3) := by decide +kernel
theorem dX7_init_100 : decode cX7_init 100 = .ok (.dup, 1) := by decide +kernel
theorem dX7_init_101 : decode cX7_init 101 = .ok (.invokespecial 53, 3) := by decide +kernel
theorem dX7_init_104 : decode cX7_init 104 = .ok (.aastore, 1) := by decide +kernel
theorem dX7_init_105 : decode cX7_init 105 = .ok (.iinc 1 1, 3) := by decide +kernel
theorem dX7_init_108 : decode cX7_init 108 = .ok (.goto (-22), 3) := by decide +kernel
theorem dX7_init_111 : decode cX7_init 111 = .ok (.return_, 1) := by decide +kernel
theorem dX7_date_0 : decode cX7_date 0 = .ok (.iload_n 1, 1) := by decide +kernel
theorem dX7_date_1 : decode cX7_date 1 = .ok (.invokestatic 54, 3) := by decide +kernel
theorem dX7_date_4 : decode cX7_date 4 = .ok (.ifCond .ne 5, 3) := by decide +kernel
theorem dX7_date_7 : decode cX7_date 7 = .ok (.iconst (-1), 1) := by decide +kernel
theorem dX7_date_8 : decode cX7_date 8 = .ok (.ireturn, 1) := by decide +kernel
theorem dX7_date_9 : decode cX7_date 9 = .ok (.iload_n 1, 1) := by decide +kernel
theorem dX7_date_10 : decode cX7_date 10 = .ok (.invokestatic 58, 3) := by decide +kernel
theorem dX7_date_13 : decode cX7_date 13 = .ok (.istore_n 3, 1) := by decide +kernel
theorem dX7_date_14 : decode cX7_date 14 = .ok (.iload_n 2, 1) := by decide +kernel
theorem dX7_date_15 : decode cX7_date 15 = .ok (.tableswitch 69 0 3 #[29, 38, 45, 54], 29) := by decide +kernel
theorem dX7_date_44 : decode cX7_date 44 = .ok (.sipush 2000, 3) := by decide +kernel
theorem dX7_date_47 : decode cX7_date 47 = .ok (.iload_n 3, 1) := by decide +kernel
theorem dX7_date_48 : decode cX7_date 48 = .ok (.bipush 12, 2) := by decide +kernel
theorem dX7_date_50 : decode cX7_date 50 = .ok (.idiv, 1) := by decide +kernel
theorem dX7_date_51 : decode cX7_date 51 = .ok (.iadd, 1) := by decide +kernel
theorem dX7_date_52 : decode cX7_date 52 = .ok (.ireturn, 1) := by decide +kernel
theorem dX7_date_53 : decode cX7_date 53 = .ok (.iconst 1, 1) := by decide +kernel
theorem dX7_date_54 : decode cX7_date 54 = .ok (.iload_n 3, 1) := by decide +kernel
theorem dX7_date_55 : decode cX7_date 55 = .ok (.bipush 12, 2) := by decide +kernel
theorem dX7_date_57 : decode cX7_date 57 = .ok (.irem, 1) := by decide +kernel
theorem dX7_date_58 : decode cX7_date 58 = .ok (.iadd, 1) := by decide +kernel
theorem dX7_date_59 : decode cX7_date 59 = .ok (.ireturn, 1) := by decide +kernel
theorem dX7_date_60 : decode cX7_date 60 = .ok (.iconst 1, 1) := by decide +kernel
theorem dX7_date_61 : decode cX7_date 61 = .ok (.iload_n 1, 1) := by decide +kernel
theorem dX7_date_62 : decode cX7_date 62 = .ok (.iadd, 1) := by decide +kernel
theorem dX7_date_63 : decode cX7_date 63 = .ok (.iload_n 3, 1) := by decide +kernel
theorem dX7_date_64 : decode cX7_date 64 = .ok (.invokestatic 64, 3) := by decide +kernel
theorem dX7_date_67 : decode cX7_date 67 = .ok (.isub, 1) := by decide +kernel
theorem dX7_date_68 : decode cX7_date 68 = .ok (.ireturn, 1) := by decide +kernel
theorem dX7_date_69 : decode cX7_date 69 = .ok (.iload_n 3, 1) := by decide +kernel
theorem dX7_date_70 : decode cX7_date 70 = .ok (.bipush 12, 2) := by decide +kernel
theorem dX7_date_72 : decode cX7_date 72 = .ok (.idiv, 1) := by decide +kernel
theorem dX7_date_73 : decode cX7_date 73 = .ok (.iconst 4, 1) := by decide +kernel
theorem dX7_date_74 : decode cX7_date 74 = .ok (.irem, 1) := by decide +kernel
theorem dX7_date_75 : decode cX7_date 75 = .ok (.ifCond .ne 7, 3) := by decide +kernel
theorem dX7_date_78 : decode cX7_date 78 = .ok (.iconst 1, 1) := by decide +kernel
theorem dX7_date_79 : decode cX7_date 79 = .ok (.goto 4, 3) := by decide +kernel
theorem dX7_date_82 : decode cX7_date 82 = .ok (.iconst 0, 1) := by decide +kernel
theorem dX7_date_83 : decode cX7_date 83 = .ok (.ireturn, 1) := by decide +kernel
theorem dX7_date_84 : decode cX7_date 84 = .ok (.iconst (-1), 1) := by decide +kernel
theorem dX7_date_85 : decode cX7_date 85 = .ok (.ireturn, 1) := by decide +kernel
theorem dX7_dayOf_0 : decode cX7_dayOf 0 = .ok (.iload_n 1, 1) := by decide +kernel
theorem dX7_dayOf_1 : decode cX7_dayOf 1 = .ok (.sipush 2000, 3) := by decide +kernel
theorem dX7_dayOf_4 : decode cX7_dayOf 4 = .ok (.sipush 2099, 3) := by decide +kernel
theorem dX7_dayOf_7 : decode cX7_dayOf 7 = .ok (.invokestatic 67, 3) := by decide +kernel
theorem dX7_dayOf_10 : decode cX7_dayOf 10 = .ok (.ifCond .eq 13, 3) := by decide +kernel
theorem dX7_dayOf_13 : decode cX7_dayOf 13 = .ok (.iload_n 2, 1) := by decide +kernel
theorem dX7_dayOf_14 : decode cX7_dayOf 14 = .ok (.iconst 1, 1) := by decide +kernel
theorem dX7_dayOf_15 : decode cX7_dayOf 15 = .ok (.bipush 12, 2) := by decide +kernel
theorem dX7_dayOf_17 : decode cX7_dayOf 17 = .ok (.invokestatic 67, 3) := by decide +kernel
theorem dX7_dayOf_20 : decode cX7_dayOf 20 = .ok (.ifCond .ne 5, 3) := by decide +kernel
theorem dX7_dayOf_23 : decode cX7_dayOf 23 = .ok (.iconst (-1), 1) := by decide +kernel
theorem dX7_dayOf_24 : decode cX7_dayOf 24 = .ok (.ireturn, 1) := by decide +kernel
theorem dX7_dayOf_25 : decode cX7_dayOf 25 = .ok (.iload_n 1, 1) := by decide +kernel
theorem dX7_dayOf_26 : decode cX7_dayOf 26 = .ok (.sipush 2000, 3) := by decide +kernel
theorem dX7_dayOf_29 : decode cX7_dayOf 29 = .ok (.isub, 1) := by decide +kernel
theorem dX7_dayOf_30 : decode cX7_dayOf 30 = .ok (.bipush 12, 2) := by decide +kernel
theorem dX7_dayOf_32 : decode cX7_dayOf 32 = .ok (.imul, 1) := by decide +kernel
theorem dX7_dayOf_33 : decode cX7_dayOf 33 = .ok (.iload_n 2, 1) := by decide +kernel
theorem dX7_dayOf_34 : decode cX7_dayOf 34 = .ok (.iadd, 1) := by decide +kernel
theorem dX7_dayOf_35 : decode cX7_dayOf 35 = .ok (.iconst 1, 1) := by decide +kernel
theorem dX7_dayOf_36 : decode cX7_dayOf 36 = .ok (.isub, 1) := by decide +kernel
theorem dX7_dayOf_37 : decode cX7_dayOf 37 = .ok (.istore 4, 2) := by decide +kernel
theorem dX7_dayOf_39 : decode cX7_dayOf 39 = .ok (.iload_n 3, 1) := by decide +kernel
theorem dX7_dayOf_40 : decode cX7_dayOf 40 = .ok (.iconst 1, 1) := by decide +kernel
theorem dX7_dayOf_41 : decode cX7_dayOf 41 = .ok (.iload 4, 2) := by decide +kernel
theorem dX7_dayOf_43 : decode cX7_dayOf 43 = .ok (.invokestatic 71, 3) := by decide +kernel
theorem dX7_dayOf_46 : decode cX7_dayOf 46 = .ok (.invokestatic 67, 3) := by decide +kernel
theorem dX7_dayOf_49 : decode cX7_dayOf 49 = .ok (.ifCond .eq 15, 3) := by decide +kernel
theorem dX7_dayOf_52 : decode cX7_dayOf 52 = .ok (.iload 4, 2) := by decide +kernel
theorem dX7_dayOf_54 : decode cX7_dayOf 54 = .ok (.invokestatic 64, 3) := by decide +kernel
theorem dX7_dayOf_57 : decode cX7_dayOf 57 = .ok (.iload_n 3, 1) := by decide +kernel
theorem dX7_dayOf_58 : decode cX7_dayOf 58 = .ok (.iadd, 1) := by decide +kernel
theorem dX7_dayOf_59 : decode cX7_dayOf 59 = .ok (.iconst 1, 1) := by decide +kernel
theorem dX7_dayOf_60 : decode cX7_dayOf 60 = .ok (.isub, 1) := by decide +kernel
theorem dX7_dayOf_61 : decode cX7_dayOf 61 = .ok (.goto 4, 3) := by decide +kernel
theorem dX7_dayOf_64 : decode cX7_dayOf 64 = .ok (.iconst (-1), 1) := by decide +kernel
theorem dX7_dayOf_65 : decode cX7_dayOf 65 = .ok (.ireturn, 1) := by decide +kernel
theorem dX7_interest_0 : decode cX7_interest 0 = .ok (.lload_n 1, 1) := by decide +kernel
theorem dX7_interest_1 : decode cX7_interest 1 = .ok (.lconst 0, 1) := by decide +kernel
theorem dX7_interest_2 : decode cX7_interest 2 = .ok (.lcmp, 1) := by decide +kernel
theorem dX7_interest_3 : decode cX7_interest 3 = .ok (.ifCond .lt 28, 3) := by decide +kernel
theorem dX7_interest_6 : decode cX7_interest 6 = .ok (.lload_n 1, 1) := by decide +kernel
theorem dX7_interest_7 : decode cX7_interest 7 = .ok (.ldc2_w 74, 3) := by decide +kernel
theorem dX7_interest_10 : decode cX7_interest 10 = .ok (.lcmp, 1) := by decide +kernel
theorem dX7_interest_11 : decode cX7_interest 11 = .ok (.ifCond .gt 20, 3) := by decide +kernel
theorem dX7_interest_14 : decode cX7_interest 14 = .ok (.iload_n 3, 1) := by decide +kernel
theorem dX7_interest_15 : decode cX7_interest 15 = .ok (.invokestatic 76, 3) := by decide +kernel
theorem dX7_interest_18 : decode cX7_interest 18 = .ok (.ifCond .eq 13, 3) := by decide +kernel
theorem dX7_interest_21 : decode cX7_interest 21 = .ok (.iload 4, 2) := by decide +kernel
theorem dX7_interest_23 : decode cX7_interest 23 = .ok (.iconst 0, 1) := by decide +kernel
theorem dX7_interest_24 : decode cX7_interest 24 = .ok (.iconst 3, 1) := by decide +kernel
theorem dX7_interest_25 : decode cX7_interest 25 = .ok (.invokestatic 67, 3) := by decide +kernel
theorem dX7_interest_28 : decode cX7_interest 28 = .ok (.ifCond .ne 7, 3) := by decide +kernel
theorem dX7_interest_31 : decode cX7_interest 31 = .ok (.ldc2_w 79, 3) := by decide +kernel
theorem dX7_interest_34 : decode cX7_interest 34 = .ok (.lreturn, 1) := by decide +kernel
theorem dX7_interest_35 : decode cX7_interest 35 = .ok (.iload 5, 2) := by decide +kernel
theorem dX7_interest_37 : decode cX7_interest 37 = .ok (.invokestatic 54, 3) := by decide +kernel
theorem dX7_interest_40 : decode cX7_interest 40 = .ok (.ifCond .eq 18, 3) := by decide +kernel
theorem dX7_interest_43 : decode cX7_interest 43 = .ok (.iload 6, 2) := by decide +kernel
theorem dX7_interest_45 : decode cX7_interest 45 = .ok (.invokestatic 54, 3) := by decide +kernel
theorem dX7_interest_48 : decode cX7_interest 48 = .ok (.ifCond .eq 10, 3) := by decide +kernel
theorem dX7_interest_51 : decode cX7_interest 51 = .ok (.iload 6, 2) := by decide +kernel
theorem dX7_interest_53 : decode cX7_interest 53 = .ok (.iload 5, 2) := by decide +kernel
theorem dX7_interest_55 : decode cX7_interest 55 = .ok (.if_icmp .ge 7, 3) := by decide +kernel
theorem dX7_interest_58 : decode cX7_interest 58 = .ok (.ldc2_w 79, 3) := by decide +kernel
theorem dX7_interest_61 : decode cX7_interest 61 = .ok (.lreturn, 1) := by decide +kernel
theorem dX7_interest_62 : decode cX7_interest 62 = .ok (.lload_n 1, 1) := by decide +kernel
theorem dX7_interest_63 : decode cX7_interest 63 = .ok (.iload_n 3, 1) := by decide +kernel
theorem dX7_interest_64 : decode cX7_interest 64 = .ok (.i2l, 1) := by decide +kernel
theorem dX7_interest_65 : decode cX7_interest 65 = .ok (.lmul, 1) := by decide +kernel
theorem dX7_interest_66 : decode cX7_interest 66 = .ok (.iload 4, 2) := by decide +kernel
theorem dX7_interest_68 : decode cX7_interest 68 = .ok (.iload 4, 2) := by decide +kernel
theorem dX7_interest_70 : decode cX7_interest 70 = .ok (.iload 5, 2) := by decide +kernel
theorem dX7_interest_72 : decode cX7_interest 72 = .ok (.iload 6, 2) := by decide +kernel
theorem dX7_interest_74 : decode cX7_interest 74 = .ok (.invokestatic 81, 3) := by decide +kernel
theorem dX7_interest_77 : decode cX7_interest 77 = .ok (.invokestatic 85, 3) := by decide +kernel
theorem dX7_interest_80 : decode cX7_interest 80 = .ok (.lreturn, 1) := by decide +kernel
theorem dX7_loan_0 : decode cX7_loan 0 = .ok (.aload_n 0, 1) := by decide +kernel
theorem dX7_loan_1 : decode cX7_loan 1 = .ok (.getfield 10, 3) := by decide +kernel
theorem dX7_loan_4 : decode cX7_loan 4 = .ok (.lload_n 1, 1) := by decide +kernel
theorem dX7_loan_5 : decode cX7_loan 5 = .ok (.iload_n 3, 1) := by decide +kernel
theorem dX7_loan_6 : decode cX7_loan 6 = .ok (.iload 4, 2) := by decide +kernel
theorem dX7_loan_8 : decode cX7_loan 8 = .ok (.iload 5, 2) := by decide +kernel
theorem dX7_loan_10 : decode cX7_loan 10 = .ok (.sipush 1000, 3) := by decide +kernel
theorem dX7_loan_13 : decode cX7_loan 13 = .ok (.idiv, 1) := by decide +kernel
theorem dX7_loan_14 : decode cX7_loan 14 = .ok (.iload 5, 2) := by decide +kernel
theorem dX7_loan_16 : decode cX7_loan 16 = .ok (.bipush 100, 2) := by decide +kernel
theorem dX7_loan_18 : decode cX7_loan 18 = .ok (.idiv, 1) := by decide +kernel
theorem dX7_loan_19 : decode cX7_loan 19 = .ok (.bipush 10, 2) := by decide +kernel
theorem dX7_loan_21 : decode cX7_loan 21 = .ok (.irem, 1) := by decide +kernel
theorem dX7_loan_22 : decode cX7_loan 22 = .ok (.iload 5, 2) := by decide +kernel
theorem dX7_loan_24 : decode cX7_loan 24 = .ok (.bipush 100, 2) := by decide +kernel
theorem dX7_loan_26 : decode cX7_loan 26 = .ok (.irem, 1) := by decide +kernel
theorem dX7_loan_27 : decode cX7_loan 27 = .ok (.invokevirtual 89, 3) := by decide +kernel
theorem dX7_loan_30 : decode cX7_loan 30 = .ok (.ireturn, 1) := by decide +kernel
theorem dX7_days_0 : decode cX7_days 0 = .ok (.iload_n 1, 1) := by decide +kernel
theorem dX7_days_1 : decode cX7_days 1 = .ok (.iconst 1, 1) := by decide +kernel
theorem dX7_days_2 : decode cX7_days 2 = .ok (.sipush 4000, 3) := by decide +kernel
theorem dX7_days_5 : decode cX7_days 5 = .ok (.invokestatic 67, 3) := by decide +kernel
theorem dX7_days_8 : decode cX7_days 8 = .ok (.ifCond .ne 5, 3) := by decide +kernel
theorem dX7_days_11 : decode cX7_days 11 = .ok (.iconst (-1), 1) := by decide +kernel
theorem dX7_days_12 : decode cX7_days 12 = .ok (.ireturn, 1) := by decide +kernel
theorem dX7_days_13 : decode cX7_days 13 = .ok (.aload_n 0, 1) := by decide +kernel
theorem dX7_days_14 : decode cX7_days 14 = .ok (.getfield 10, 3) := by decide +kernel
theorem dX7_days_17 : decode cX7_days 17 = .ok (.getfield 93, 3) := by decide +kernel
theorem dX7_days_20 : decode cX7_days 20 = .ok (.iload_n 1, 1) := by decide +kernel
theorem dX7_days_21 : decode cX7_days 21 = .ok (.iadd, 1) := by decide +kernel
theorem dX7_days_22 : decode cX7_days 22 = .ok (.ldc 97, 2) := by decide +kernel
theorem dX7_days_24 : decode cX7_days 24 = .ok (.if_icmp .le 8, 3) := by decide +kernel
theorem dX7_days_27 : decode cX7_days 27 = .ok (.bipush (-5), 2) := by decide +kernel
theorem dX7_days_29 : decode cX7_days 29 = .ok (.goto 11, 3) := by decide +kernel
theorem dX7_days_32 : decode cX7_days 32 = .ok (.aload_n 0, 1) := by decide +kernel
theorem dX7_days_33 : decode cX7_days 33 = .ok (.getfield 10, 3) := by decide +kernel
theorem dX7_days_36 : decode cX7_days 36 = .ok (.iload_n 1, 1) := by decide +kernel
theorem dX7_days_37 : decode cX7_days 37 = .ok (.invokevirtual 98, 3) := by decide +kernel
theorem dX7_days_40 : decode cX7_days 40 = .ok (.ireturn, 1) := by decide +kernel
theorem dX7_pay_0 : decode cX7_pay 0 = .ok (.aload_n 0, 1) := by decide +kernel
theorem dX7_pay_1 : decode cX7_pay 1 = .ok (.getfield 10, 3) := by decide +kernel
theorem dX7_pay_4 : decode cX7_pay 4 = .ok (.iload_n 1, 1) := by decide +kernel
theorem dX7_pay_5 : decode cX7_pay 5 = .ok (.invokevirtual 101, 3) := by decide +kernel
theorem dX7_pay_8 : decode cX7_pay 8 = .ok (.ifCond .eq 10, 3) := by decide +kernel
theorem dX7_pay_11 : decode cX7_pay 11 = .ok (.lload_n 2, 1) := by decide +kernel
theorem dX7_pay_12 : decode cX7_pay 12 = .ok (.invokestatic 104, 3) := by decide +kernel
theorem dX7_pay_15 : decode cX7_pay 15 = .ok (.ifCond .ne 7, 3) := by decide +kernel
theorem dX7_pay_18 : decode cX7_pay 18 = .ok (.ldc2_w 79, 3) := by decide +kernel
theorem dX7_pay_21 : decode cX7_pay 21 = .ok (.lreturn, 1) := by decide +kernel
theorem dX7_pay_22 : decode cX7_pay 22 = .ok (.aload_n 0, 1) := by decide +kernel
theorem dX7_pay_23 : decode cX7_pay 23 = .ok (.getfield 10, 3) := by decide +kernel
theorem dX7_pay_26 : decode cX7_pay 26 = .ok (.getfield 108, 3) := by decide +kernel
theorem dX7_pay_29 : decode cX7_pay 29 = .ok (.iload_n 1, 1) := by decide +kernel
theorem dX7_pay_30 : decode cX7_pay 30 = .ok (.aaload, 1) := by decide +kernel
theorem dX7_pay_31 : decode cX7_pay 31 = .ok (.lload_n 2, 1) := by decide +kernel
theorem dX7_pay_32 : decode cX7_pay 32 = .ok (.invokevirtual 112, 3) := by decide +kernel
theorem dX7_pay_35 : decode cX7_pay 35 = .ok (.lreturn, 1) := by decide +kernel
theorem dX7_reset_0 : decode cX7_reset 0 = .ok (.aload_n 0, 1) := by decide +kernel
theorem dX7_reset_1 : decode cX7_reset 1 = .ok (.getfield 10, 3) := by decide +kernel
theorem dX7_reset_4 : decode cX7_reset 4 = .ok (.iload_n 1, 1) := by decide +kernel
theorem dX7_reset_5 : decode cX7_reset 5 = .ok (.invokevirtual 101, 3) := by decide +kernel
theorem dX7_reset_8 : decode cX7_reset 8 = .ok (.ifCond .eq 10, 3) := by decide +kernel
theorem dX7_reset_11 : decode cX7_reset 11 = .ok (.iload_n 2, 1) := by decide +kernel
theorem dX7_reset_12 : decode cX7_reset 12 = .ok (.invokestatic 76, 3) := by decide +kernel
theorem dX7_reset_15 : decode cX7_reset 15 = .ok (.ifCond .ne 7, 3) := by decide +kernel
theorem dX7_reset_18 : decode cX7_reset 18 = .ok (.ldc2_w 79, 3) := by decide +kernel
theorem dX7_reset_21 : decode cX7_reset 21 = .ok (.lreturn, 1) := by decide +kernel
theorem dX7_reset_22 : decode cX7_reset 22 = .ok (.aload_n 0, 1) := by decide +kernel
theorem dX7_reset_23 : decode cX7_reset 23 = .ok (.getfield 10, 3) := by decide +kernel
theorem dX7_reset_26 : decode cX7_reset 26 = .ok (.getfield 108, 3) := by decide +kernel
theorem dX7_reset_29 : decode cX7_reset 29 = .ok (.iload_n 1, 1) := by decide +kernel
theorem dX7_reset_30 : decode cX7_reset 30 = .ok (.aaload, 1) := by decide +kernel
theorem dX7_reset_31 : decode cX7_reset 31 = .ok (.astore_n 3, 1) := by decide +kernel
theorem dX7_reset_32 : decode cX7_reset 32 = .ok (.aload_n 3, 1) := by decide +kernel
theorem dX7_reset_33 : decode cX7_reset 33 = .ok (.iload_n 2, 1) := by decide +kernel
theorem dX7_reset_34 : decode cX7_reset 34 = .ok (.putfield 116, 3) := by decide +kernel
theorem dX7_reset_37 : decode cX7_reset 37 = .ok (.aload_n 3, 1) := by decide +kernel
theorem dX7_reset_38 : decode cX7_reset 38 = .ok (.invokevirtual 119, 3) := by decide +kernel
theorem dX7_reset_41 : decode cX7_reset 41 = .ok (.aload_n 3, 1) := by decide +kernel
theorem dX7_reset_42 : decode cX7_reset 42 = .ok (.getfield 122, 3) := by decide +kernel
theorem dX7_reset_45 : decode cX7_reset 45 = .ok (.lreturn, 1) := by decide +kernel
theorem dX7_writeOff_0 : decode cX7_writeOff 0 = .ok (.aload_n 0, 1) := by decide +kernel
theorem dX7_writeOff_1 : decode cX7_writeOff 1 = .ok (.getfield 10, 3) := by decide +kernel
theorem dX7_writeOff_4 : decode cX7_writeOff 4 = .ok (.iload_n 1, 1) := by decide +kernel
theorem dX7_writeOff_5 : decode cX7_writeOff 5 = .ok (.invokevirtual 101, 3) := by decide +kernel
theorem dX7_writeOff_8 : decode cX7_writeOff 8 = .ok (.ifCond .ne 7, 3) := by decide +kernel
theorem dX7_writeOff_11 : decode cX7_writeOff 11 = .ok (.ldc2_w 79, 3) := by decide +kernel
theorem dX7_writeOff_14 : decode cX7_writeOff 14 = .ok (.lreturn, 1) := by decide +kernel
theorem dX7_writeOff_15 : decode cX7_writeOff 15 = .ok (.aload_n 0, 1) := by decide +kernel
theorem dX7_writeOff_16 : decode cX7_writeOff 16 = .ok (.getfield 10, 3) := by decide +kernel
theorem dX7_writeOff_19 : decode cX7_writeOff 19 = .ok (.getfield 108, 3) := by decide +kernel
theorem dX7_writeOff_22 : decode cX7_writeOff 22 = .ok (.iload_n 1, 1) := by decide +kernel
theorem dX7_writeOff_23 : decode cX7_writeOff 23 = .ok (.aaload, 1) := by decide +kernel
theorem dX7_writeOff_24 : decode cX7_writeOff 24 = .ok (.astore_n 2, 1) := by decide +kernel
theorem dX7_writeOff_25 : decode cX7_writeOff 25 = .ok (.aload_n 2, 1) := by decide +kernel
theorem dX7_writeOff_26 : decode cX7_writeOff 26 = .ok (.invokevirtual 126, 3) := by decide +kernel
theorem dX7_writeOff_29 : decode cX7_writeOff 29 = .ok (.ifCond .eq 9, 3) := by decide +kernel
theorem dX7_writeOff_32 : decode cX7_writeOff 32 = .ok (.ldc2_w 130, 3) := by decide +kernel
theorem dX7_writeOff_35 : decode cX7_writeOff 35 = .ok (.goto 7, 3) := by decide +kernel
theorem dX7_writeOff_38 : decode cX7_writeOff 38 = .ok (.aload_n 2, 1) := by decide +kernel
theorem dX7_writeOff_39 : decode cX7_writeOff 39 = .ok (.invokevirtual 132, 3) := by decide +kernel
theorem dX7_writeOff_42 : decode cX7_writeOff 42 = .ok (.lreturn, 1) := by decide +kernel
theorem dX7_rule_0 : decode cX7_rule 0 = .ok (.iload_n 1, 1) := by decide +kernel
theorem dX7_rule_1 : decode cX7_rule 1 = .ok (.ifCond .ne 32, 3) := by decide +kernel
theorem dX7_rule_4 : decode cX7_rule 4 = .ok (.iload_n 2, 1) := by decide +kernel
theorem dX7_rule_5 : decode cX7_rule 5 = .ok (.iconst 0, 1) := by decide +kernel
theorem dX7_rule_6 : decode cX7_rule 6 = .ok (.bipush 90, 2) := by decide +kernel
theorem dX7_rule_8 : decode cX7_rule 8 = .ok (.invokestatic 67, 3) := by decide +kernel
theorem dX7_rule_11 : decode cX7_rule 11 = .ok (.ifCond .eq 22, 3) := by decide +kernel
theorem dX7_rule_14 : decode cX7_rule 14 = .ok (.aload_n 0, 1) := by decide +kernel
theorem dX7_rule_15 : decode cX7_rule 15 = .ok (.getfield 10, 3) := by decide +kernel
theorem dX7_rule_18 : decode cX7_rule 18 = .ok (.getfield 136, 3) := by decide +kernel
theorem dX7_rule_21 : decode cX7_rule 21 = .ok (.istore_n 3, 1) := by decide +kernel
theorem dX7_rule_22 : decode cX7_rule 22 = .ok (.aload_n 0, 1) := by decide +kernel
theorem dX7_rule_23 : decode cX7_rule 23 = .ok (.getfield 10, 3) := by decide +kernel
theorem dX7_rule_26 : decode cX7_rule 26 = .ok (.iload_n 2, 1) := by decide +kernel
theorem dX7_rule_27 : decode cX7_rule 27 = .ok (.putfield 136, 3) := by decide +kernel
theorem dX7_rule_30 : decode cX7_rule 30 = .ok (.goto 40, 3) := by decide +kernel
theorem dX7_rule_33 : decode cX7_rule 33 = .ok (.iload_n 1, 1) := by decide +kernel
theorem dX7_rule_34 : decode cX7_rule 34 = .ok (.iconst 1, 1) := by decide +kernel
theorem dX7_rule_35 : decode cX7_rule 35 = .ok (.if_icmp .ne 33, 3) := by decide +kernel
theorem dX7_rule_38 : decode cX7_rule 38 = .ok (.iload_n 2, 1) := by decide +kernel
theorem dX7_rule_39 : decode cX7_rule 39 = .ok (.iconst 0, 1) := by decide +kernel
theorem dX7_rule_40 : decode cX7_rule 40 = .ok (.sipush 10000, 3) := by decide +kernel
theorem dX7_rule_43 : decode cX7_rule 43 = .ok (.invokestatic 67, 3) := by decide +kernel
theorem dX7_rule_46 : decode cX7_rule 46 = .ok (.ifCond .eq 22, 3) := by decide +kernel
theorem dX7_rule_49 : decode cX7_rule 49 = .ok (.aload_n 0, 1) := by decide +kernel
theorem dX7_rule_50 : decode cX7_rule 50 = .ok (.getfield 10, 3) := by decide +kernel
theorem dX7_rule_53 : decode cX7_rule 53 = .ok (.getfield 139, 3) := by decide +kernel
theorem dX7_rule_56 : decode cX7_rule 56 = .ok (.istore_n 3, 1) := by decide +kernel
theorem dX7_rule_57 : decode cX7_rule 57 = .ok (.aload_n 0, 1) := by decide +kernel
theorem dX7_rule_58 : decode cX7_rule 58 = .ok (.getfield 10, 3) := by decide +kernel
theorem dX7_rule_61 : decode cX7_rule 61 = .ok (.iload_n 2, 1) := by decide +kernel
theorem dX7_rule_62 : decode cX7_rule 62 = .ok (.putfield 139, 3) := by decide +kernel
theorem dX7_rule_65 : decode cX7_rule 65 = .ok (.goto 5, 3) := by decide +kernel
theorem dX7_rule_68 : decode cX7_rule 68 = .ok (.iconst (-1), 1) := by decide +kernel
theorem dX7_rule_69 : decode cX7_rule 69 = .ok (.istore_n 3, 1) := by decide +kernel
theorem dX7_rule_70 : decode cX7_rule 70 = .ok (.iload_n 3, 1) := by decide +kernel
theorem dX7_rule_71 : decode cX7_rule 71 = .ok (.ireturn, 1) := by decide +kernel
theorem dX7_of_0 : decode cX7_of 0 = .ok (.aload_n 0, 1) := by decide +kernel
theorem dX7_of_1 : decode cX7_of 1 = .ok (.getfield 10, 3) := by decide +kernel
theorem dX7_of_4 : decode cX7_of 4 = .ok (.iload_n 1, 1) := by decide +kernel
theorem dX7_of_5 : decode cX7_of 5 = .ok (.invokevirtual 101, 3) := by decide +kernel
theorem dX7_of_8 : decode cX7_of 8 = .ok (.ifCond .ne 5, 3) := by decide +kernel
theorem dX7_of_11 : decode cX7_of 11 = .ok (.iconst (-1), 1) := by decide +kernel
theorem dX7_of_12 : decode cX7_of 12 = .ok (.ireturn, 1) := by decide +kernel
theorem dX7_of_13 : decode cX7_of 13 = .ok (.aload_n 0, 1) := by decide +kernel
theorem dX7_of_14 : decode cX7_of 14 = .ok (.getfield 10, 3) := by decide +kernel
theorem dX7_of_17 : decode cX7_of 17 = .ok (.getfield 108, 3) := by decide +kernel
theorem dX7_of_20 : decode cX7_of 20 = .ok (.iload_n 1, 1) := by decide +kernel
theorem dX7_of_21 : decode cX7_of 21 = .ok (.aaload, 1) := by decide +kernel
theorem dX7_of_22 : decode cX7_of 22 = .ok (.astore_n 3, 1) := by decide +kernel
theorem dX7_of_23 : decode cX7_of 23 = .ok (.iload_n 2, 1) := by decide +kernel
theorem dX7_of_24 : decode cX7_of 24 = .ok (.tableswitch 138 0 9 #[56, 61, 66, 71, 76, 81, 88, 93, 98, 110], 56) := by decide +kernel
theorem dX7_of_80 : decode cX7_of 80 = .ok (.aload_n 3, 1) := by decide +kernel
theorem dX7_of_81 : decode cX7_of 81 = .ok (.getfield 116, 3) := by decide +kernel
theorem dX7_of_84 : decode cX7_of 84 = .ok (.ireturn, 1) := by decide +kernel
theorem dX7_of_85 : decode cX7_of 85 = .ok (.aload_n 3, 1) := by decide +kernel
theorem dX7_of_86 : decode cX7_of 86 = .ok (.getfield 142, 3) := by decide +kernel
theorem dX7_of_89 : decode cX7_of 89 = .ok (.ireturn, 1) := by decide +kernel
theorem dX7_of_90 : decode cX7_of 90 = .ok (.aload_n 3, 1) := by decide +kernel
theorem dX7_of_91 : decode cX7_of 91 = .ok (.getfield 145, 3) := by decide +kernel
theorem dX7_of_94 : decode cX7_of 94 = .ok (.ireturn, 1) := by decide +kernel
theorem dX7_of_95 : decode cX7_of 95 = .ok (.aload_n 3, 1) := by decide +kernel
theorem dX7_of_96 : decode cX7_of 96 = .ok (.getfield 148, 3) := by decide +kernel
theorem dX7_of_99 : decode cX7_of 99 = .ok (.ireturn, 1) := by decide +kernel
theorem dX7_of_100 : decode cX7_of 100 = .ok (.aload_n 3, 1) := by decide +kernel
theorem dX7_of_101 : decode cX7_of 101 = .ok (.getfield 151, 3) := by decide +kernel
theorem dX7_of_104 : decode cX7_of 104 = .ok (.ireturn, 1) := by decide +kernel
theorem dX7_of_105 : decode cX7_of 105 = .ok (.aload_n 3, 1) := by decide +kernel
theorem dX7_of_106 : decode cX7_of 106 = .ok (.getfield 154, 3) := by decide +kernel
theorem dX7_of_109 : decode cX7_of 109 = .ok (.iconst 0, 1) := by decide +kernel
theorem dX7_of_110 : decode cX7_of 110 = .ok (.iaload, 1) := by decide +kernel
theorem dX7_of_111 : decode cX7_of 111 = .ok (.ireturn, 1) := by decide +kernel
theorem dX7_of_112 : decode cX7_of 112 = .ok (.aload_n 3, 1) := by decide +kernel
theorem dX7_of_113 : decode cX7_of 113 = .ok (.getfield 158, 3) := by decide +kernel
theorem dX7_of_116 : decode cX7_of 116 = .ok (.ireturn, 1) := by decide +kernel
theorem dX7_of_117 : decode cX7_of 117 = .ok (.aload_n 3, 1) := by decide +kernel
theorem dX7_of_118 : decode cX7_of 118 = .ok (.invokevirtual 161, 3) := by decide +kernel
theorem dX7_of_121 : decode cX7_of 121 = .ok (.ireturn, 1) := by decide +kernel
theorem dX7_of_122 : decode cX7_of 122 = .ok (.aload_n 3, 1) := by decide +kernel
theorem dX7_of_123 : decode cX7_of 123 = .ok (.aload_n 0, 1) := by decide +kernel
theorem dX7_of_124 : decode cX7_of 124 = .ok (.getfield 10, 3) := by decide +kernel
theorem dX7_of_127 : decode cX7_of 127 = .ok (.getfield 93, 3) := by decide +kernel
theorem dX7_of_130 : decode cX7_of 130 = .ok (.invokevirtual 165, 3) := by decide +kernel
theorem dX7_of_133 : decode cX7_of 133 = .ok (.ireturn, 1) := by decide +kernel
theorem dX7_of_134 : decode cX7_of 134 = .ok (.aload_n 3, 1) := by decide +kernel
theorem dX7_of_135 : decode cX7_of 135 = .ok (.getfield 158, 3) := by decide +kernel
theorem dX7_of_138 : decode cX7_of 138 = .ok (.aload_n 3, 1) := by decide +kernel
theorem dX7_of_139 : decode cX7_of 139 = .ok (.getfield 148, 3) := by decide +kernel
theorem dX7_of_142 : decode cX7_of 142 = .ok (.if_icmp .ge 17, 3) := by decide +kernel
theorem dX7_of_145 : decode cX7_of 145 = .ok (.aload_n 3, 1) := by decide +kernel
theorem dX7_of_146 : decode cX7_of 146 = .ok (.getfield 154, 3) := by decide +kernel
theorem dX7_of_149 : decode cX7_of 149 = .ok (.aload_n 3, 1) := by decide +kernel
theorem dX7_of_150 : decode cX7_of 150 = .ok (.getfield 158, 3) := by decide +kernel
theorem dX7_of_153 : decode cX7_of 153 = .ok (.iconst 1, 1) := by decide +kernel
theorem dX7_of_154 : decode cX7_of 154 = .ok (.iadd, 1) := by decide +kernel
theorem dX7_of_155 : decode cX7_of 155 = .ok (.iaload, 1) := by decide +kernel
theorem dX7_of_156 : decode cX7_of 156 = .ok (.goto 5, 3) := by decide +kernel
theorem dX7_of_159 : decode cX7_of 159 = .ok (.bipush (-2), 2) := by decide +kernel
theorem dX7_of_161 : decode cX7_of 161 = .ok (.ireturn, 1) := by decide +kernel
theorem dX7_of_162 : decode cX7_of 162 = .ok (.iconst (-1), 1) := by decide +kernel
theorem dX7_of_163 : decode cX7_of 163 = .ok (.ireturn, 1) := by decide +kernel
theorem dX7_sum_0 : decode cX7_sum 0 = .ok (.aload_n 0, 1) := by decide +kernel
theorem dX7_sum_1 : decode cX7_sum 1 = .ok (.getfield 10, 3) := by decide +kernel
theorem dX7_sum_4 : decode cX7_sum 4 = .ok (.iload_n 1, 1) := by decide +kernel
theorem dX7_sum_5 : decode cX7_sum 5 = .ok (.invokevirtual 101, 3) := by decide +kernel
theorem dX7_sum_8 : decode cX7_sum 8 = .ok (.ifCond .ne 7, 3) := by decide +kernel
theorem dX7_sum_11 : decode cX7_sum 11 = .ok (.ldc2_w 79, 3) := by decide +kernel
theorem dX7_sum_14 : decode cX7_sum 14 = .ok (.lreturn, 1) := by decide +kernel
theorem dX7_sum_15 : decode cX7_sum 15 = .ok (.aload_n 0, 1) := by decide +kernel
theorem dX7_sum_16 : decode cX7_sum 16 = .ok (.getfield 10, 3) := by decide +kernel
theorem dX7_sum_19 : decode cX7_sum 19 = .ok (.getfield 108, 3) := by decide +kernel
theorem dX7_sum_22 : decode cX7_sum 22 = .ok (.iload_n 1, 1) := by decide +kernel
theorem dX7_sum_23 : decode cX7_sum 23 = .ok (.aaload, 1) := by decide +kernel
theorem dX7_sum_24 : decode cX7_sum 24 = .ok (.astore_n 3, 1) := by decide +kernel
theorem dX7_sum_25 : decode cX7_sum 25 = .ok (.iload_n 2, 1) := by decide +kernel
theorem dX7_sum_26 : decode cX7_sum 26 = .ok (.tableswitch 106 0 8 #[50, 55, 60, 65, 70, 75, 80, 85, 90], 50) := by decide +kernel
theorem dX7_sum_76 : decode cX7_sum 76 = .ok (.aload_n 3, 1) := by decide +kernel
theorem dX7_sum_77 : decode cX7_sum 77 = .ok (.getfield 168, 3) := by decide +kernel
theorem dX7_sum_80 : decode cX7_sum 80 = .ok (.lreturn, 1) := by decide +kernel
theorem dX7_sum_81 : decode cX7_sum 81 = .ok (.aload_n 3, 1) := by decide +kernel
theorem dX7_sum_82 : decode cX7_sum 82 = .ok (.getfield 171, 3) := by decide +kernel
theorem dX7_sum_85 : decode cX7_sum 85 = .ok (.lreturn, 1) := by decide +kernel
theorem dX7_sum_86 : decode cX7_sum 86 = .ok (.aload_n 3, 1) := by decide +kernel
theorem dX7_sum_87 : decode cX7_sum 87 = .ok (.getfield 122, 3) := by decide +kernel
theorem dX7_sum_90 : decode cX7_sum 90 = .ok (.lreturn, 1) := by decide +kernel
theorem dX7_sum_91 : decode cX7_sum 91 = .ok (.aload_n 3, 1) := by decide +kernel
theorem dX7_sum_92 : decode cX7_sum 92 = .ok (.invokevirtual 174, 3) := by decide +kernel
theorem dX7_sum_95 : decode cX7_sum 95 = .ok (.lreturn, 1) := by decide +kernel
theorem dX7_sum_96 : decode cX7_sum 96 = .ok (.aload_n 3, 1) := by decide +kernel
theorem dX7_sum_97 : decode cX7_sum 97 = .ok (.getfield 177, 3) := by decide +kernel
theorem dX7_sum_100 : decode cX7_sum 100 = .ok (.lreturn, 1) := by decide +kernel
theorem dX7_sum_101 : decode cX7_sum 101 = .ok (.aload_n 3, 1) := by decide +kernel
theorem dX7_sum_102 : decode cX7_sum 102 = .ok (.getfield 180, 3) := by decide +kernel
theorem dX7_sum_105 : decode cX7_sum 105 = .ok (.lreturn, 1) := by decide +kernel
theorem dX7_sum_106 : decode cX7_sum 106 = .ok (.aload_n 3, 1) := by decide +kernel
theorem dX7_sum_107 : decode cX7_sum 107 = .ok (.getfield 183, 3) := by decide +kernel
theorem dX7_sum_110 : decode cX7_sum 110 = .ok (.lreturn, 1) := by decide +kernel
theorem dX7_sum_111 : decode cX7_sum 111 = .ok (.aload_n 3, 1) := by decide +kernel
theorem dX7_sum_112 : decode cX7_sum 112 = .ok (.getfield 186, 3) := by decide +kernel
theorem dX7_sum_115 : decode cX7_sum 115 = .ok (.lreturn, 1) := by decide +kernel
theorem dX7_sum_116 : decode cX7_sum 116 = .ok (.aload_n 0, 1) := by decide +kernel
theorem dX7_sum_117 : decode cX7_sum 117 = .ok (.getfield 36, 3) := by decide +kernel
theorem dX7_sum_120 : decode cX7_sum 120 = .ok (.aload_n 3, 1) := by decide +kernel
theorem dX7_sum_121 : decode cX7_sum 121 = .ok (.invokevirtual 189, 3) := by decide +kernel
theorem dX7_sum_124 : decode cX7_sum 124 = .ok (.aload_n 0, 1) := by decide +kernel
theorem dX7_sum_125 : decode cX7_sum 125 = .ok (.getfield 36, 3) := by decide +kernel
theorem dX7_sum_128 : decode cX7_sum 128 = .ok (.invokevirtual 193, 3) := by decide +kernel
theorem dX7_sum_131 : decode cX7_sum 131 = .ok (.lreturn, 1) := by decide +kernel
theorem dX7_sum_132 : decode cX7_sum 132 = .ok (.ldc2_w 79, 3) := by decide +kernel
theorem dX7_sum_135 : decode cX7_sum 135 = .ok (.lreturn, 1) := by decide +kernel
theorem dX7_bill_0 : decode cX7_bill 0 = .ok (.aload_n 0, 1) := by decide +kernel
theorem dX7_bill_1 : decode cX7_bill 1 = .ok (.getfield 10, 3) := by decide +kernel
theorem dX7_bill_4 : decode cX7_bill 4 = .ok (.iload_n 1, 1) := by decide +kernel
theorem dX7_bill_5 : decode cX7_bill 5 = .ok (.invokevirtual 101, 3) := by decide +kernel
theorem dX7_bill_8 : decode cX7_bill 8 = .ok (.ifCond .eq 16, 3) := by decide +kernel
theorem dX7_bill_11 : decode cX7_bill 11 = .ok (.iload_n 2, 1) := by decide +kernel
theorem dX7_bill_12 : decode cX7_bill 12 = .ok (.ifCond .lt 12, 3) := by decide +kernel
theorem dX7_bill_15 : decode cX7_bill 15 = .ok (.iload_n 3, 1) := by decide +kernel
theorem dX7_bill_16 : decode cX7_bill 16 = .ok (.iconst 0, 1) := by decide +kernel
theorem dX7_bill_17 : decode cX7_bill 17 = .ok (.iconst 3, 1) := by decide +kernel
theorem dX7_bill_18 : decode cX7_bill 18 = .ok (.invokestatic 67, 3) := by decide +kernel
theorem dX7_bill_21 : decode cX7_bill 21 = .ok (.ifCond .ne 7, 3) := by decide +kernel
theorem dX7_bill_24 : decode cX7_bill 24 = .ok (.ldc2_w 79, 3) := by decide +kernel
theorem dX7_bill_27 : decode cX7_bill 27 = .ok (.lreturn, 1) := by decide +kernel
theorem dX7_bill_28 : decode cX7_bill 28 = .ok (.aload_n 0, 1) := by decide +kernel
theorem dX7_bill_29 : decode cX7_bill 29 = .ok (.getfield 10, 3) := by decide +kernel
theorem dX7_bill_32 : decode cX7_bill 32 = .ok (.getfield 108, 3) := by decide +kernel
theorem dX7_bill_35 : decode cX7_bill 35 = .ok (.iload_n 1, 1) := by decide +kernel
theorem dX7_bill_36 : decode cX7_bill 36 = .ok (.aaload, 1) := by decide +kernel
theorem dX7_bill_37 : decode cX7_bill 37 = .ok (.astore 4, 2) := by decide +kernel
theorem dX7_bill_39 : decode cX7_bill 39 = .ok (.aload 4, 2) := by decide +kernel
theorem dX7_bill_41 : decode cX7_bill 41 = .ok (.iload_n 2, 1) := by decide +kernel
theorem dX7_bill_42 : decode cX7_bill 42 = .ok (.invokevirtual 196, 3) := by decide +kernel
theorem dX7_bill_45 : decode cX7_bill 45 = .ok (.istore 5, 2) := by decide +kernel
theorem dX7_bill_47 : decode cX7_bill 47 = .ok (.iload 5, 2) := by decide +kernel
theorem dX7_bill_49 : decode cX7_bill 49 = .ok (.ifCond .ne 7, 3) := by decide +kernel
theorem dX7_bill_52 : decode cX7_bill 52 = .ok (.ldc2_w 199, 3) := by decide +kernel
theorem dX7_bill_55 : decode cX7_bill 55 = .ok (.lreturn, 1) := by decide +kernel
theorem dX7_bill_56 : decode cX7_bill 56 = .ok (.iload_n 3, 1) := by decide +kernel
theorem dX7_bill_57 : decode cX7_bill 57 = .ok (.tableswitch 55 0 2 #[27, 37, 46], 27) := by decide +kernel
theorem dX7_bill_84 : decode cX7_bill 84 = .ok (.aload 4, 2) := by decide +kernel
theorem dX7_bill_86 : decode cX7_bill 86 = .ok (.getfield 154, 3) := by decide +kernel
theorem dX7_bill_89 : decode cX7_bill 89 = .ok (.iload 5, 2) := by decide +kernel
theorem dX7_bill_91 : decode cX7_bill 91 = .ok (.iaload, 1) := by decide +kernel
theorem dX7_bill_92 : decode cX7_bill 92 = .ok (.i2l, 1) := by decide +kernel
theorem dX7_bill_93 : decode cX7_bill 93 = .ok (.lreturn, 1) := by decide +kernel
theorem dX7_bill_94 : decode cX7_bill 94 = .ok (.aload 4, 2) := by decide +kernel
theorem dX7_bill_96 : decode cX7_bill 96 = .ok (.getfield 201, 3) := by decide +kernel
theorem dX7_bill_99 : decode cX7_bill 99 = .ok (.iload 5, 2) := by decide +kernel
theorem dX7_bill_101 : decode cX7_bill 101 = .ok (.laload, 1) := by decide +kernel
theorem dX7_bill_102 : decode cX7_bill 102 = .ok (.lreturn, 1) := by decide +kernel
theorem dX7_bill_103 : decode cX7_bill 103 = .ok (.aload 4, 2) := by decide +kernel
theorem dX7_bill_105 : decode cX7_bill 105 = .ok (.getfield 205, 3) := by decide +kernel
theorem dX7_bill_108 : decode cX7_bill 108 = .ok (.iload 5, 2) := by decide +kernel
theorem dX7_bill_110 : decode cX7_bill 110 = .ok (.laload, 1) := by decide +kernel
theorem dX7_bill_111 : decode cX7_bill 111 = .ok (.lreturn, 1) := by decide +kernel
theorem dX7_bill_112 : decode cX7_bill 112 = .ok (.aload 4, 2) := by decide +kernel
theorem dX7_bill_114 : decode cX7_bill 114 = .ok (.getfield 208, 3) := by decide +kernel
theorem dX7_bill_117 : decode cX7_bill 117 = .ok (.iload 5, 2) := by decide +kernel
theorem dX7_bill_119 : decode cX7_bill 119 = .ok (.laload, 1) := by decide +kernel
theorem dX7_bill_120 : decode cX7_bill 120 = .ok (.lreturn, 1) := by decide +kernel
theorem dX7_toCome_0 : decode cX7_toCome 0 = .ok (.aload_n 0, 1) := by decide +kernel
theorem dX7_toCome_1 : decode cX7_toCome 1 = .ok (.getfield 10, 3) := by decide +kernel
theorem dX7_toCome_4 : decode cX7_toCome 4 = .ok (.iload_n 1, 1) := by decide +kernel
theorem dX7_toCome_5 : decode cX7_toCome 5 = .ok (.invokevirtual 101, 3) := by decide +kernel
theorem dX7_toCome_8 : decode cX7_toCome 8 = .ok (.ifCond .eq 16, 3) := by decide +kernel
theorem dX7_toCome_11 : decode cX7_toCome 11 = .ok (.iload_n 2, 1) := by decide +kernel
theorem dX7_toCome_12 : decode cX7_toCome 12 = .ok (.ifCond .lt 12, 3) := by decide +kernel
theorem dX7_toCome_15 : decode cX7_toCome 15 = .ok (.iload_n 3, 1) := by decide +kernel
theorem dX7_toCome_16 : decode cX7_toCome 16 = .ok (.iconst 0, 1) := by decide +kernel
theorem dX7_toCome_17 : decode cX7_toCome 17 = .ok (.iconst 3, 1) := by decide +kernel
theorem dX7_toCome_18 : decode cX7_toCome 18 = .ok (.invokestatic 67, 3) := by decide +kernel
theorem dX7_toCome_21 : decode cX7_toCome 21 = .ok (.ifCond .ne 7, 3) := by decide +kernel
theorem dX7_toCome_24 : decode cX7_toCome 24 = .ok (.ldc2_w 79, 3) := by decide +kernel
theorem dX7_toCome_27 : decode cX7_toCome 27 = .ok (.lreturn, 1) := by decide +kernel
theorem dX7_toCome_28 : decode cX7_toCome 28 = .ok (.aload_n 0, 1) := by decide +kernel
theorem dX7_toCome_29 : decode cX7_toCome 29 = .ok (.getfield 36, 3) := by decide +kernel
theorem dX7_toCome_32 : decode cX7_toCome 32 = .ok (.aload_n 0, 1) := by decide +kernel
theorem dX7_toCome_33 : decode cX7_toCome 33 = .ok (.getfield 10, 3) := by decide +kernel
theorem dX7_toCome_36 : decode cX7_toCome 36 = .ok (.getfield 108, 3) := by decide +kernel
theorem dX7_toCome_39 : decode cX7_toCome 39 = .ok (.iload_n 1, 1) := by decide +kernel
theorem dX7_toCome_40 : decode cX7_toCome 40 = .ok (.aaload, 1) := by decide +kernel
theorem dX7_toCome_41 : decode cX7_toCome 41 = .ok (.invokevirtual 189, 3) := by decide +kernel
theorem dX7_toCome_44 : decode cX7_toCome 44 = .ok (.aload_n 0, 1) := by decide +kernel
theorem dX7_toCome_45 : decode cX7_toCome 45 = .ok (.getfield 36, 3) := by decide +kernel
theorem dX7_toCome_48 : decode cX7_toCome 48 = .ok (.iload_n 2, 1) := by decide +kernel
theorem dX7_toCome_49 : decode cX7_toCome 49 = .ok (.invokevirtual 211, 3) := by decide +kernel
theorem dX7_toCome_52 : decode cX7_toCome 52 = .ok (.istore 4, 2) := by decide +kernel
theorem dX7_toCome_54 : decode cX7_toCome 54 = .ok (.iload 4, 2) := by decide +kernel
theorem dX7_toCome_56 : decode cX7_toCome 56 = .ok (.ifCond .ne 7, 3) := by decide +kernel
theorem dX7_toCome_59 : decode cX7_toCome 59 = .ok (.ldc2_w 199, 3) := by decide +kernel
theorem dX7_toCome_62 : decode cX7_toCome 62 = .ok (.lreturn, 1) := by decide +kernel
theorem dX7_toCome_63 : decode cX7_toCome 63 = .ok (.iload_n 3, 1) := by decide +kernel
theorem dX7_toCome_64 : decode cX7_toCome 64 = .ok (.tableswitch 67 0 2 #[28, 45, 56], 28) := by decide +kernel
theorem dX7_toCome_92 : decode cX7_toCome 92 = .ok (.aload_n 0, 1) := by decide +kernel
theorem dX7_toCome_93 : decode cX7_toCome 93 = .ok (.getfield 10, 3) := by decide +kernel
theorem dX7_toCome_96 : decode cX7_toCome 96 = .ok (.getfield 108, 3) := by decide +kernel
theorem dX7_toCome_99 : decode cX7_toCome 99 = .ok (.iload_n 1, 1) := by decide +kernel
theorem dX7_toCome_100 : decode cX7_toCome 100 = .ok (.aaload, 1) := by decide +kernel
theorem dX7_toCome_101 : decode cX7_toCome 101 = .ok (.getfield 154, 3) := by decide +kernel
theorem dX7_toCome_104 : decode cX7_toCome 104 = .ok (.iload 4, 2) := by decide +kernel
theorem dX7_toCome_106 : decode cX7_toCome 106 = .ok (.iaload, 1) := by decide +kernel
theorem dX7_toCome_107 : decode cX7_toCome 107 = .ok (.i2l, 1) := by decide +kernel
theorem dX7_toCome_108 : decode cX7_toCome 108 = .ok (.lreturn, 1) := by decide +kernel
theorem dX7_toCome_109 : decode cX7_toCome 109 = .ok (.aload_n 0, 1) := by decide +kernel
theorem dX7_toCome_110 : decode cX7_toCome 110 = .ok (.getfield 36, 3) := by decide +kernel
theorem dX7_toCome_113 : decode cX7_toCome 113 = .ok (.getfield 212, 3) := by decide +kernel
theorem dX7_toCome_116 : decode cX7_toCome 116 = .ok (.iload 4, 2) := by decide +kernel
theorem dX7_toCome_118 : decode cX7_toCome 118 = .ok (.laload, 1) := by decide +kernel
theorem dX7_toCome_119 : decode cX7_toCome 119 = .ok (.lreturn, 1) := by decide +kernel
theorem dX7_toCome_120 : decode cX7_toCome 120 = .ok (.aload_n 0, 1) := by decide +kernel
theorem dX7_toCome_121 : decode cX7_toCome 121 = .ok (.getfield 36, 3) := by decide +kernel
theorem dX7_toCome_124 : decode cX7_toCome 124 = .ok (.getfield 215, 3) := by decide +kernel
theorem dX7_toCome_127 : decode cX7_toCome 127 = .ok (.iload 4, 2) := by decide +kernel
theorem dX7_toCome_129 : decode cX7_toCome 129 = .ok (.laload, 1) := by decide +kernel
theorem dX7_toCome_130 : decode cX7_toCome 130 = .ok (.lreturn, 1) := by decide +kernel
theorem dX7_toCome_131 : decode cX7_toCome 131 = .ok (.aload_n 0, 1) := by decide +kernel
theorem dX7_toCome_132 : decode cX7_toCome 132 = .ok (.getfield 36, 3) := by decide +kernel
theorem dX7_toCome_135 : decode cX7_toCome 135 = .ok (.getfield 218, 3) := by decide +kernel
theorem dX7_toCome_138 : decode cX7_toCome 138 = .ok (.iload 4, 2) := by decide +kernel
theorem dX7_toCome_140 : decode cX7_toCome 140 = .ok (.laload, 1) := by decide +kernel
theorem dX7_toCome_141 : decode cX7_toCome 141 = .ok (.lreturn, 1) := by decide +kernel
theorem dX7_coming_0 : decode cX7_coming 0 = .ok (.aload_n 0, 1) := by decide +kernel
theorem dX7_coming_1 : decode cX7_coming 1 = .ok (.getfield 10, 3) := by decide +kernel
theorem dX7_coming_4 : decode cX7_coming 4 = .ok (.iload_n 1, 1) := by decide +kernel
theorem dX7_coming_5 : decode cX7_coming 5 = .ok (.invokevirtual 101, 3) := by decide +kernel
theorem dX7_coming_8 : decode cX7_coming 8 = .ok (.ifCond .ne 7, 3) := by decide +kernel
theorem dX7_coming_11 : decode cX7_coming 11 = .ok (.ldc2_w 79, 3) := by decide +kernel
theorem dX7_coming_14 : decode cX7_coming 14 = .ok (.lreturn, 1) := by decide +kernel
theorem dX7_coming_15 : decode cX7_coming 15 = .ok (.aload_n 0, 1) := by decide +kernel
theorem dX7_coming_16 : decode cX7_coming 16 = .ok (.getfield 10, 3) := by decide +kernel
theorem dX7_coming_19 : decode cX7_coming 19 = .ok (.getfield 108, 3) := by decide +kernel
theorem dX7_coming_22 : decode cX7_coming 22 = .ok (.iload_n 1, 1) := by decide +kernel
theorem dX7_coming_23 : decode cX7_coming 23 = .ok (.aaload, 1) := by decide +kernel
theorem dX7_coming_24 : decode cX7_coming 24 = .ok (.astore_n 3, 1) := by decide +kernel
theorem dX7_coming_25 : decode cX7_coming 25 = .ok (.aload_n 0, 1) := by decide +kernel
theorem dX7_coming_26 : decode cX7_coming 26 = .ok (.getfield 36, 3) := by decide +kernel
theorem dX7_coming_29 : decode cX7_coming 29 = .ok (.aload_n 3, 1) := by decide +kernel
theorem dX7_coming_30 : decode cX7_coming 30 = .ok (.invokevirtual 189, 3) := by decide +kernel
theorem dX7_coming_33 : decode cX7_coming 33 = .ok (.aload_n 0, 1) := by decide +kernel
theorem dX7_coming_34 : decode cX7_coming 34 = .ok (.getfield 36, 3) := by decide +kernel
theorem dX7_coming_37 : decode cX7_coming 37 = .ok (.invokevirtual 220, 3) := by decide +kernel
theorem dX7_coming_40 : decode cX7_coming 40 = .ok (.istore 4, 2) := by decide +kernel
theorem dX7_coming_42 : decode cX7_coming 42 = .ok (.iload_n 2, 1) := by decide +kernel
theorem dX7_coming_43 : decode cX7_coming 43 = .ok (.tableswitch 66 0 2 #[25, 29, 58], 25) := by decide +kernel
theorem dX7_coming_68 : decode cX7_coming 68 = .ok (.iload 4, 2) := by decide +kernel
theorem dX7_coming_70 : decode cX7_coming 70 = .ok (.i2l, 1) := by decide +kernel
theorem dX7_coming_71 : decode cX7_coming 71 = .ok (.lreturn, 1) := by decide +kernel
theorem dX7_coming_72 : decode cX7_coming 72 = .ok (.iload 4, 2) := by decide +kernel
theorem dX7_coming_74 : decode cX7_coming 74 = .ok (.ifCond .ne 9, 3) := by decide +kernel
theorem dX7_coming_77 : decode cX7_coming 77 = .ok (.ldc2_w 199, 3) := by decide +kernel
theorem dX7_coming_80 : decode cX7_coming 80 = .ok (.goto 20, 3) := by decide +kernel
theorem dX7_coming_83 : decode cX7_coming 83 = .ok (.aload_n 3, 1) := by decide +kernel
theorem dX7_coming_84 : decode cX7_coming 84 = .ok (.getfield 154, 3) := by decide +kernel
theorem dX7_coming_87 : decode cX7_coming 87 = .ok (.aload_n 0, 1) := by decide +kernel
theorem dX7_coming_88 : decode cX7_coming 88 = .ok (.getfield 36, 3) := by decide +kernel
theorem dX7_coming_91 : decode cX7_coming 91 = .ok (.iload 4, 2) := by decide +kernel
theorem dX7_coming_93 : decode cX7_coming 93 = .ok (.iconst 1, 1) := by decide +kernel
theorem dX7_coming_94 : decode cX7_coming 94 = .ok (.isub, 1) := by decide +kernel
theorem dX7_coming_95 : decode cX7_coming 95 = .ok (.invokevirtual 211, 3) := by decide +kernel
theorem dX7_coming_98 : decode cX7_coming 98 = .ok (.iaload, 1) := by decide +kernel
theorem dX7_coming_99 : decode cX7_coming 99 = .ok (.i2l, 1) := by decide +kernel
theorem dX7_coming_100 : decode cX7_coming 100 = .ok (.lreturn, 1) := by decide +kernel
theorem dX7_coming_101 : decode cX7_coming 101 = .ok (.aload_n 0, 1) := by decide +kernel
theorem dX7_coming_102 : decode cX7_coming 102 = .ok (.getfield 36, 3) := by decide +kernel
theorem dX7_coming_105 : decode cX7_coming 105 = .ok (.invokevirtual 223, 3) := by decide +kernel
theorem dX7_coming_108 : decode cX7_coming 108 = .ok (.lreturn, 1) := by decide +kernel
theorem dX7_coming_109 : decode cX7_coming 109 = .ok (.ldc2_w 79, 3) := by decide +kernel
theorem dX7_coming_112 : decode cX7_coming 112 = .ok (.lreturn, 1) := by decide +kernel
theorem dX7_value_0 : decode cX7_value 0 = .ok (.aload_n 0, 1) := by decide +kernel
theorem dX7_value_1 : decode cX7_value 1 = .ok (.getfield 10, 3) := by decide +kernel
theorem dX7_value_4 : decode cX7_value 4 = .ok (.iload_n 1, 1) := by decide +kernel
theorem dX7_value_5 : decode cX7_value 5 = .ok (.invokevirtual 101, 3) := by decide +kernel
theorem dX7_value_8 : decode cX7_value 8 = .ok (.ifCond .eq 10, 3) := by decide +kernel
theorem dX7_value_11 : decode cX7_value 11 = .ok (.lload_n 2, 1) := by decide +kernel
theorem dX7_value_12 : decode cX7_value 12 = .ok (.invokestatic 226, 3) := by decide +kernel
theorem dX7_value_15 : decode cX7_value 15 = .ok (.ifCond .ne 5, 3) := by decide +kernel
theorem dX7_value_18 : decode cX7_value 18 = .ok (.lconst 0, 1) := by decide +kernel
theorem dX7_value_19 : decode cX7_value 19 = .ok (.lreturn, 1) := by decide +kernel
theorem dX7_value_20 : decode cX7_value 20 = .ok (.aload_n 0, 1) := by decide +kernel
theorem dX7_value_21 : decode cX7_value 21 = .ok (.getfield 36, 3) := by decide +kernel
theorem dX7_value_24 : decode cX7_value 24 = .ok (.aload_n 0, 1) := by decide +kernel
theorem dX7_value_25 : decode cX7_value 25 = .ok (.getfield 10, 3) := by decide +kernel
theorem dX7_value_28 : decode cX7_value 28 = .ok (.getfield 108, 3) := by decide +kernel
theorem dX7_value_31 : decode cX7_value 31 = .ok (.iload_n 1, 1) := by decide +kernel
theorem dX7_value_32 : decode cX7_value 32 = .ok (.aaload, 1) := by decide +kernel
theorem dX7_value_33 : decode cX7_value 33 = .ok (.invokevirtual 189, 3) := by decide +kernel
theorem dX7_value_36 : decode cX7_value 36 = .ok (.aload_n 0, 1) := by decide +kernel
theorem dX7_value_37 : decode cX7_value 37 = .ok (.getfield 36, 3) := by decide +kernel
theorem dX7_value_40 : decode cX7_value 40 = .ok (.lload_n 2, 1) := by decide +kernel
theorem dX7_value_41 : decode cX7_value 41 = .ok (.invokestatic 231, 3) := by decide +kernel
theorem dX7_value_44 : decode cX7_value 44 = .ok (.invokevirtual 235, 3) := by decide +kernel
theorem dX7_value_47 : decode cX7_value 47 = .ok (.invokestatic 239, 3) := by decide +kernel
theorem dX7_value_50 : decode cX7_value 50 = .ok (.lreturn, 1) := by decide +kernel
theorem dX7_yieldOf_0 : decode cX7_yieldOf 0 = .ok (.aload_n 0, 1) := by decide +kernel
theorem dX7_yieldOf_1 : decode cX7_yieldOf 1 = .ok (.getfield 10, 3) := by decide +kernel
theorem dX7_yieldOf_4 : decode cX7_yieldOf 4 = .ok (.iload_n 1, 1) := by decide +kernel
theorem dX7_yieldOf_5 : decode cX7_yieldOf 5 = .ok (.invokevirtual 101, 3) := by decide +kernel
theorem dX7_yieldOf_8 : decode cX7_yieldOf 8 = .ok (.ifCond .eq 9, 3) := by decide +kernel
theorem dX7_yieldOf_11 : decode cX7_yieldOf 11 = .ok (.lload_n 2, 1) := by decide +kernel
theorem dX7_yieldOf_12 : decode cX7_yieldOf 12 = .ok (.lconst 1, 1) := by decide +kernel
theorem dX7_yieldOf_13 : decode cX7_yieldOf 13 = .ok (.lcmp, 1) := by decide +kernel
theorem dX7_yieldOf_14 : decode cX7_yieldOf 14 = .ok (.ifCond .ge 7, 3) := by decide +kernel
theorem dX7_yieldOf_17 : decode cX7_yieldOf 17 = .ok (.ldc2_w 79, 3) := by decide +kernel
theorem dX7_yieldOf_20 : decode cX7_yieldOf 20 = .ok (.lreturn, 1) := by decide +kernel
theorem dX7_yieldOf_21 : decode cX7_yieldOf 21 = .ok (.aload_n 0, 1) := by decide +kernel
theorem dX7_yieldOf_22 : decode cX7_yieldOf 22 = .ok (.getfield 36, 3) := by decide +kernel
theorem dX7_yieldOf_25 : decode cX7_yieldOf 25 = .ok (.aload_n 0, 1) := by decide +kernel
theorem dX7_yieldOf_26 : decode cX7_yieldOf 26 = .ok (.getfield 10, 3) := by decide +kernel
theorem dX7_yieldOf_29 : decode cX7_yieldOf 29 = .ok (.getfield 108, 3) := by decide +kernel
theorem dX7_yieldOf_32 : decode cX7_yieldOf 32 = .ok (.iload_n 1, 1) := by decide +kernel
theorem dX7_yieldOf_33 : decode cX7_yieldOf 33 = .ok (.aaload, 1) := by decide +kernel
theorem dX7_yieldOf_34 : decode cX7_yieldOf 34 = .ok (.invokevirtual 189, 3) := by decide +kernel
theorem dX7_yieldOf_37 : decode cX7_yieldOf 37 = .ok (.aload_n 0, 1) := by decide +kernel
theorem dX7_yieldOf_38 : decode cX7_yieldOf 38 = .ok (.getfield 36, 3) := by decide +kernel
theorem dX7_yieldOf_41 : decode cX7_yieldOf 41 = .ok (.lload_n 2, 1) := by decide +kernel
theorem dX7_yieldOf_42 : decode cX7_yieldOf 42 = .ok (.l2d, 1) := by decide +kernel
theorem dX7_yieldOf_43 : decode cX7_yieldOf 43 = .ok (.invokevirtual 243, 3) := by decide +kernel
theorem dX7_yieldOf_46 : decode cX7_yieldOf 46 = .ok (.invokestatic 239, 3) := by decide +kernel
theorem dX7_yieldOf_49 : decode cX7_yieldOf 49 = .ok (.lreturn, 1) := by decide +kernel
theorem dX7_near_0 : decode cX7_near 0 = .ok (.aload_n 0, 1) := by decide +kernel
theorem dX7_near_1 : decode cX7_near 1 = .ok (.getfield 10, 3) := by decide +kernel
theorem dX7_near_4 : decode cX7_near 4 = .ok (.iload_n 1, 1) := by decide +kernel
theorem dX7_near_5 : decode cX7_near 5 = .ok (.invokevirtual 101, 3) := by decide +kernel
theorem dX7_near_8 : decode cX7_near 8 = .ok (.ifCond .eq 9, 3) := by decide +kernel
theorem dX7_near_11 : decode cX7_near 11 = .ok (.lload_n 2, 1) := by decide +kernel
theorem dX7_near_12 : decode cX7_near 12 = .ok (.lconst 1, 1) := by decide +kernel
theorem dX7_near_13 : decode cX7_near 13 = .ok (.lcmp, 1) := by decide +kernel
theorem dX7_near_14 : decode cX7_near 14 = .ok (.ifCond .ge 5, 3) := by decide +kernel
theorem dX7_near_17 : decode cX7_near 17 = .ok (.iconst (-1), 1) := by decide +kernel
theorem dX7_near_18 : decode cX7_near 18 = .ok (.ireturn, 1) := by decide +kernel
theorem dX7_near_19 : decode cX7_near 19 = .ok (.aload_n 0, 1) := by decide +kernel
theorem dX7_near_20 : decode cX7_near 20 = .ok (.getfield 36, 3) := by decide +kernel
theorem dX7_near_23 : decode cX7_near 23 = .ok (.aload_n 0, 1) := by decide +kernel
theorem dX7_near_24 : decode cX7_near 24 = .ok (.getfield 10, 3) := by decide +kernel
theorem dX7_near_27 : decode cX7_near 27 = .ok (.getfield 108, 3) := by decide +kernel
theorem dX7_near_30 : decode cX7_near 30 = .ok (.iload_n 1, 1) := by decide +kernel
theorem dX7_near_31 : decode cX7_near 31 = .ok (.aaload, 1) := by decide +kernel
theorem dX7_near_32 : decode cX7_near 32 = .ok (.invokevirtual 189, 3) := by decide +kernel
theorem dX7_near_35 : decode cX7_near 35 = .ok (.aload_n 0, 1) := by decide +kernel
theorem dX7_near_36 : decode cX7_near 36 = .ok (.getfield 36, 3) := by decide +kernel
theorem dX7_near_39 : decode cX7_near 39 = .ok (.lload_n 2, 1) := by decide +kernel
theorem dX7_near_40 : decode cX7_near 40 = .ok (.l2d, 1) := by decide +kernel
theorem dX7_near_41 : decode cX7_near 41 = .ok (.invokevirtual 243, 3) := by decide +kernel
theorem dX7_near_44 : decode cX7_near 44 = .ok (.d2f, 1) := by decide +kernel
theorem dX7_near_45 : decode cX7_near 45 = .ok (.invokestatic 246, 3) := by decide +kernel
theorem dX7_near_48 : decode cX7_near 48 = .ok (.ireturn, 1) := by decide +kernel
theorem dX7_duration_0 : decode cX7_duration 0 = .ok (.aload_n 0, 1) := by decide +kernel
theorem dX7_duration_1 : decode cX7_duration 1 = .ok (.getfield 10, 3) := by decide +kernel
theorem dX7_duration_4 : decode cX7_duration 4 = .ok (.iload_n 1, 1) := by decide +kernel
theorem dX7_duration_5 : decode cX7_duration 5 = .ok (.invokevirtual 101, 3) := by decide +kernel
theorem dX7_duration_8 : decode cX7_duration 8 = .ok (.ifCond .eq 10, 3) := by decide +kernel
theorem dX7_duration_11 : decode cX7_duration 11 = .ok (.lload_n 2, 1) := by decide +kernel
theorem dX7_duration_12 : decode cX7_duration 12 = .ok (.invokestatic 226, 3) := by decide +kernel
theorem dX7_duration_15 : decode cX7_duration 15 = .ok (.ifCond .ne 5, 3) := by decide +kernel
theorem dX7_duration_18 : decode cX7_duration 18 = .ok (.lconst 0, 1) := by decide +kernel
theorem dX7_duration_19 : decode cX7_duration 19 = .ok (.lreturn, 1) := by decide +kernel
theorem dX7_duration_20 : decode cX7_duration 20 = .ok (.aload_n 0, 1) := by decide +kernel
theorem dX7_duration_21 : decode cX7_duration 21 = .ok (.getfield 36, 3) := by decide +kernel
theorem dX7_duration_24 : decode cX7_duration 24 = .ok (.aload_n 0, 1) := by decide +kernel
theorem dX7_duration_25 : decode cX7_duration 25 = .ok (.getfield 10, 3) := by decide +kernel
theorem dX7_duration_28 : decode cX7_duration 28 = .ok (.getfield 108, 3) := by decide +kernel
theorem dX7_duration_31 : decode cX7_duration 31 = .ok (.iload_n 1, 1) := by decide +kernel
theorem dX7_duration_32 : decode cX7_duration 32 = .ok (.aaload, 1) := by decide +kernel
theorem dX7_duration_33 : decode cX7_duration 33 = .ok (.invokevirtual 189, 3) := by decide +kernel
theorem dX7_duration_36 : decode cX7_duration 36 = .ok (.lload_n 2, 1) := by decide +kernel
theorem dX7_duration_37 : decode cX7_duration 37 = .ok (.invokestatic 231, 3) := by decide +kernel
theorem dX7_duration_40 : decode cX7_duration 40 = .ok (.dstore 4, 2) := by decide +kernel
theorem dX7_duration_42 : decode cX7_duration 42 = .ok (.aload_n 0, 1) := by decide +kernel
theorem dX7_duration_43 : decode cX7_duration 43 = .ok (.getfield 36, 3) := by decide +kernel
theorem dX7_duration_46 : decode cX7_duration 46 = .ok (.dload 4, 2) := by decide +kernel
theorem dX7_duration_48 : decode cX7_duration 48 = .ok (.invokevirtual 235, 3) := by decide +kernel
theorem dX7_duration_51 : decode cX7_duration 51 = .ok (.dstore 6, 2) := by decide +kernel
theorem dX7_duration_53 : decode cX7_duration 53 = .ok (.dload 6, 2) := by decide +kernel
theorem dX7_duration_55 : decode cX7_duration 55 = .ok (.dconst 0, 1) := by decide +kernel
theorem dX7_duration_56 : decode cX7_duration 56 = .ok (.dcmp .l, 1) := by decide +kernel
theorem dX7_duration_57 : decode cX7_duration 57 = .ok (.ifCond .le 21, 3) := by decide +kernel
theorem dX7_duration_60 : decode cX7_duration 60 = .ok (.aload_n 0, 1) := by decide +kernel
theorem dX7_duration_61 : decode cX7_duration 61 = .ok (.getfield 36, 3) := by decide +kernel
theorem dX7_duration_64 : decode cX7_duration 64 = .ok (.dload 4, 2) := by decide +kernel
theorem dX7_duration_66 : decode cX7_duration 66 = .ok (.invokevirtual 250, 3) := by decide +kernel
theorem dX7_duration_69 : decode cX7_duration 69 = .ok (.dload 6, 2) := by decide +kernel
theorem dX7_duration_71 : decode cX7_duration 71 = .ok (.ddiv, 1) := by decide +kernel
theorem dX7_duration_72 : decode cX7_duration 72 = .ok (.invokestatic 239, 3) := by decide +kernel
theorem dX7_duration_75 : decode cX7_duration 75 = .ok (.goto 4, 3) := by decide +kernel
theorem dX7_duration_78 : decode cX7_duration 78 = .ok (.lconst 0, 1) := by decide +kernel
theorem dX7_duration_79 : decode cX7_duration 79 = .ok (.lreturn, 1) := by decide +kernel
theorem dX7_behind_0 : decode cX7_behind 0 = .ok (.iload_n 1, 1) := by decide +kernel
theorem dX7_behind_1 : decode cX7_behind 1 = .ok (.ifCond .ge 5, 3) := by decide +kernel
theorem dX7_behind_4 : decode cX7_behind 4 = .ok (.iconst (-1), 1) := by decide +kernel
theorem dX7_behind_5 : decode cX7_behind 5 = .ok (.ireturn, 1) := by decide +kernel
theorem dX7_behind_6 : decode cX7_behind 6 = .ok (.iconst 0, 1) := by decide +kernel
theorem dX7_behind_7 : decode cX7_behind 7 = .ok (.istore_n 2, 1) := by decide +kernel
theorem dX7_behind_8 : decode cX7_behind 8 = .ok (.iconst 0, 1) := by decide +kernel
theorem dX7_behind_9 : decode cX7_behind 9 = .ok (.istore_n 3, 1) := by decide +kernel
theorem dX7_behind_10 : decode cX7_behind 10 = .ok (.iload_n 3, 1) := by decide +kernel
theorem dX7_behind_11 : decode cX7_behind 11 = .ok (.aload_n 0, 1) := by decide +kernel
theorem dX7_behind_12 : decode cX7_behind 12 = .ok (.getfield 10, 3) := by decide +kernel
theorem dX7_behind_15 : decode cX7_behind 15 = .ok (.getfield 253, 3) := by decide +kernel
theorem dX7_behind_18 : decode cX7_behind 18 = .ok (.if_icmp .ge 38, 3) := by decide +kernel
theorem dX7_behind_21 : decode cX7_behind 21 = .ok (.aload_n 0, 1) := by decide +kernel
theorem dX7_behind_22 : decode cX7_behind 22 = .ok (.getfield 10, 3) := by decide +kernel
theorem dX7_behind_25 : decode cX7_behind 25 = .ok (.getfield 108, 3) := by decide +kernel
theorem dX7_behind_28 : decode cX7_behind 28 = .ok (.iload_n 3, 1) := by decide +kernel
theorem dX7_behind_29 : decode cX7_behind 29 = .ok (.aaload, 1) := by decide +kernel
theorem dX7_behind_30 : decode cX7_behind 30 = .ok (.aload_n 0, 1) := by decide +kernel
theorem dX7_behind_31 : decode cX7_behind 31 = .ok (.getfield 10, 3) := by decide +kernel
theorem dX7_behind_34 : decode cX7_behind 34 = .ok (.getfield 93, 3) := by decide +kernel
theorem dX7_behind_37 : decode cX7_behind 37 = .ok (.invokevirtual 165, 3) := by decide +kernel
theorem dX7_behind_40 : decode cX7_behind 40 = .ok (.iload_n 1, 1) := by decide +kernel
theorem dX7_behind_41 : decode cX7_behind 41 = .ok (.if_icmp .le 9, 3) := by decide +kernel
theorem dX7_behind_44 : decode cX7_behind 44 = .ok (.iload_n 2, 1) := by decide +kernel
theorem dX7_behind_45 : decode cX7_behind 45 = .ok (.iconst 1, 1) := by decide +kernel
theorem dX7_behind_46 : decode cX7_behind 46 = .ok (.iload_n 3, 1) := by decide +kernel
theorem dX7_behind_47 : decode cX7_behind 47 = .ok (.ishl, 1) := by decide +kernel
theorem dX7_behind_48 : decode cX7_behind 48 = .ok (.ior, 1) := by decide +kernel
theorem dX7_behind_49 : decode cX7_behind 49 = .ok (.istore_n 2, 1) := by decide +kernel
theorem dX7_behind_50 : decode cX7_behind 50 = .ok (.iinc 3 1, 3) := by decide +kernel
theorem dX7_behind_53 : decode cX7_behind 53 = .ok (.goto (-43), 3) := by decide +kernel
theorem dX7_behind_56 : decode cX7_behind 56 = .ok (.iload_n 2, 1) := by decide +kernel
theorem dX7_behind_57 : decode cX7_behind 57 = .ok (.ireturn, 1) := by decide +kernel
theorem dX7_settles_0 : decode cX7_settles 0 = .ok (.aload_n 0, 1) := by decide +kernel
theorem dX7_settles_1 : decode cX7_settles 1 = .ok (.getfield 10, 3) := by decide +kernel
theorem dX7_settles_4 : decode cX7_settles 4 = .ok (.iload_n 1, 1) := by decide +kernel
theorem dX7_settles_5 : decode cX7_settles 5 = .ok (.invokevirtual 101, 3) := by decide +kernel
theorem dX7_settles_8 : decode cX7_settles 8 = .ok (.ifCond .ne 5, 3) := by decide +kernel
theorem dX7_settles_11 : decode cX7_settles 11 = .ok (.iconst (-1), 1) := by decide +kernel
theorem dX7_settles_12 : decode cX7_settles 12 = .ok (.ireturn, 1) := by decide +kernel
theorem dX7_settles_13 : decode cX7_settles 13 = .ok (.aload_n 0, 1) := by decide +kernel
theorem dX7_settles_14 : decode cX7_settles 14 = .ok (.getfield 10, 3) := by decide +kernel
theorem dX7_settles_17 : decode cX7_settles 17 = .ok (.getfield 108, 3) := by decide +kernel
theorem dX7_settles_20 : decode cX7_settles 20 = .ok (.iload_n 1, 1) := by decide +kernel
theorem dX7_settles_21 : decode cX7_settles 21 = .ok (.aaload, 1) := by decide +kernel
theorem dX7_settles_22 : decode cX7_settles 22 = .ok (.astore_n 2, 1) := by decide +kernel
theorem dX7_settles_23 : decode cX7_settles 23 = .ok (.aload_n 2, 1) := by decide +kernel
theorem dX7_settles_24 : decode cX7_settles 24 = .ok (.getfield 158, 3) := by decide +kernel
theorem dX7_settles_27 : decode cX7_settles 27 = .ok (.aload_n 2, 1) := by decide +kernel
theorem dX7_settles_28 : decode cX7_settles 28 = .ok (.getfield 148, 3) := by decide +kernel
theorem dX7_settles_31 : decode cX7_settles 31 = .ok (.if_icmp .ge 23, 3) := by decide +kernel
theorem dX7_settles_34 : decode cX7_settles 34 = .ok (.aload_n 2, 1) := by decide +kernel
theorem dX7_settles_35 : decode cX7_settles 35 = .ok (.getfield 154, 3) := by decide +kernel
theorem dX7_settles_38 : decode cX7_settles 38 = .ok (.aload_n 2, 1) := by decide +kernel
theorem dX7_settles_39 : decode cX7_settles 39 = .ok (.getfield 148, 3) := by decide +kernel
theorem dX7_settles_42 : decode cX7_settles 42 = .ok (.iaload, 1) := by decide +kernel
theorem dX7_settles_43 : decode cX7_settles 43 = .ok (.aload_n 0, 1) := by decide +kernel
theorem dX7_settles_44 : decode cX7_settles 44 = .ok (.getfield 10, 3) := by decide +kernel
theorem dX7_settles_47 : decode cX7_settles 47 = .ok (.getfield 93, 3) := by decide +kernel
theorem dX7_settles_50 : decode cX7_settles 50 = .ok (.isub, 1) := by decide +kernel
theorem dX7_settles_51 : decode cX7_settles 51 = .ok (.goto 4, 3) := by decide +kernel
theorem dX7_settles_54 : decode cX7_settles 54 = .ok (.iconst 0, 1) := by decide +kernel
theorem dX7_settles_55 : decode cX7_settles 55 = .ok (.ireturn, 1) := by decide +kernel
theorem dX7_would_0 : decode cX7_would 0 = .ok (.aload_n 0, 1) := by decide +kernel
theorem dX7_would_1 : decode cX7_would 1 = .ok (.getfield 10, 3) := by decide +kernel
theorem dX7_would_4 : decode cX7_would 4 = .ok (.iload_n 1, 1) := by decide +kernel
theorem dX7_would_5 : decode cX7_would 5 = .ok (.invokevirtual 101, 3) := by decide +kernel
theorem dX7_would_8 : decode cX7_would 8 = .ok (.ifCond .eq 10, 3) := by decide +kernel
theorem dX7_would_11 : decode cX7_would 11 = .ok (.lload_n 2, 1) := by decide +kernel
theorem dX7_would_12 : decode cX7_would 12 = .ok (.invokestatic 104, 3) := by decide +kernel
theorem dX7_would_15 : decode cX7_would 15 = .ok (.ifCond .ne 7, 3) := by decide +kernel
theorem dX7_would_18 : decode cX7_would 18 = .ok (.ldc2_w 79, 3) := by decide +kernel
theorem dX7_would_21 : decode cX7_would 21 = .ok (.lreturn, 1) := by decide +kernel
theorem dX7_would_22 : decode cX7_would 22 = .ok (.aload_n 0, 1) := by decide +kernel
theorem dX7_would_23 : decode cX7_would 23 = .ok (.getfield 10, 3) := by decide +kernel
theorem dX7_would_26 : decode cX7_would 26 = .ok (.getfield 108, 3) := by decide +kernel
theorem dX7_would_29 : decode cX7_would 29 = .ok (.iload_n 1, 1) := by decide +kernel
theorem dX7_would_30 : decode cX7_would 30 = .ok (.aaload, 1) := by decide +kernel
theorem dX7_would_31 : decode cX7_would 31 = .ok (.astore 5, 2) := by decide +kernel
theorem dX7_would_33 : decode cX7_would 33 = .ok (.aload_n 0, 1) := by decide +kernel
theorem dX7_would_34 : decode cX7_would 34 = .ok (.getfield 29, 3) := by decide +kernel
theorem dX7_would_37 : decode cX7_would 37 = .ok (.aload 5, 2) := by decide +kernel
theorem dX7_would_39 : decode cX7_would 39 = .ok (.invokevirtual 256, 3) := by decide +kernel
theorem dX7_would_42 : decode cX7_would 42 = .ok (.aload_n 0, 1) := by decide +kernel
theorem dX7_would_43 : decode cX7_would 43 = .ok (.getfield 29, 3) := by decide +kernel
theorem dX7_would_46 : decode cX7_would 46 = .ok (.lload_n 2, 1) := by decide +kernel
theorem dX7_would_47 : decode cX7_would 47 = .ok (.invokevirtual 112, 3) := by decide +kernel
theorem dX7_would_50 : decode cX7_would 50 = .ok (.lstore 6, 2) := by decide +kernel
theorem dX7_would_52 : decode cX7_would 52 = .ok (.aload 5, 2) := by decide +kernel
theorem dX7_would_54 : decode cX7_would 54 = .ok (.getfield 171, 3) := by decide +kernel
theorem dX7_would_57 : decode cX7_would 57 = .ok (.aload_n 0, 1) := by decide +kernel
theorem dX7_would_58 : decode cX7_would 58 = .ok (.getfield 29, 3) := by decide +kernel
theorem dX7_would_61 : decode cX7_would 61 = .ok (.getfield 171, 3) := by decide +kernel
theorem dX7_would_64 : decode cX7_would 64 = .ok (.lsub, 1) := by decide +kernel
theorem dX7_would_65 : decode cX7_would 65 = .ok (.lstore 8, 2) := by decide +kernel
theorem dX7_would_67 : decode cX7_would 67 = .ok (.iload 4, 2) := by decide +kernel
theorem dX7_would_69 : decode cX7_would 69 = .ok (.tableswitch 98 0 5 #[39, 53, 67, 84, 87, 90], 39) := by decide +kernel
theorem dX7_would_108 : decode cX7_would 108 = .ok (.aload_n 0, 1) := by decide +kernel
theorem dX7_would_109 : decode cX7_would 109 = .ok (.getfield 29, 3) := by decide +kernel
theorem dX7_would_112 : decode cX7_would 112 = .ok (.getfield 177, 3) := by decide +kernel
theorem dX7_would_115 : decode cX7_would 115 = .ok (.aload 5, 2) := by decide +kernel
theorem dX7_would_117 : decode cX7_would 117 = .ok (.getfield 177, 3) := by decide +kernel
theorem dX7_would_120 : decode cX7_would 120 = .ok (.lsub, 1) := by decide +kernel
theorem dX7_would_121 : decode cX7_would 121 = .ok (.lreturn, 1) := by decide +kernel
theorem dX7_would_122 : decode cX7_would 122 = .ok (.aload_n 0, 1) := by decide +kernel
theorem dX7_would_123 : decode cX7_would 123 = .ok (.getfield 29, 3) := by decide +kernel
theorem dX7_would_126 : decode cX7_would 126 = .ok (.getfield 180, 3) := by decide +kernel
theorem dX7_would_129 : decode cX7_would 129 = .ok (.aload 5, 2) := by decide +kernel
theorem dX7_would_131 : decode cX7_would 131 = .ok (.getfield 180, 3) := by decide +kernel
theorem dX7_would_134 : decode cX7_would 134 = .ok (.lsub, 1) := by decide +kernel
theorem dX7_would_135 : decode cX7_would 135 = .ok (.lreturn, 1) := by decide +kernel
theorem dX7_would_136 : decode cX7_would 136 = .ok (.aload_n 0, 1) := by decide +kernel
theorem dX7_would_137 : decode cX7_would 137 = .ok (.getfield 29, 3) := by decide +kernel
theorem dX7_would_140 : decode cX7_would 140 = .ok (.getfield 183, 3) := by decide +kernel
theorem dX7_would_143 : decode cX7_would 143 = .ok (.aload 5, 2) := by decide +kernel
theorem dX7_would_145 : decode cX7_would 145 = .ok (.getfield 183, 3) := by decide +kernel
theorem dX7_would_148 : decode cX7_would 148 = .ok (.lsub, 1) := by decide +kernel
theorem dX7_would_149 : decode cX7_would 149 = .ok (.lload 8, 2) := by decide +kernel
theorem dX7_would_151 : decode cX7_would 151 = .ok (.lsub, 1) := by decide +kernel
theorem dX7_would_152 : decode cX7_would 152 = .ok (.lreturn, 1) := by decide +kernel
theorem dX7_would_153 : decode cX7_would 153 = .ok (.lload 8, 2) := by decide +kernel
theorem dX7_would_155 : decode cX7_would 155 = .ok (.lreturn, 1) := by decide +kernel
theorem dX7_would_156 : decode cX7_would 156 = .ok (.lload 6, 2) := by decide +kernel
theorem dX7_would_158 : decode cX7_would 158 = .ok (.lreturn, 1) := by decide +kernel
theorem dX7_would_159 : decode cX7_would 159 = .ok (.aload_n 0, 1) := by decide +kernel
theorem dX7_would_160 : decode cX7_would 160 = .ok (.getfield 29, 3) := by decide +kernel
theorem dX7_would_163 : decode cX7_would 163 = .ok (.getfield 122, 3) := by decide +kernel
theorem dX7_would_166 : decode cX7_would 166 = .ok (.lreturn, 1) := by decide +kernel
theorem dX7_would_167 : decode cX7_would 167 = .ok (.ldc2_w 79, 3) := by decide +kernel
theorem dX7_would_170 : decode cX7_would 170 = .ok (.lreturn, 1) := by decide +kernel
theorem dX7_sooner_0 : decode cX7_sooner 0 = .ok (.aload_n 0, 1) := by decide +kernel
theorem dX7_sooner_1 : decode cX7_sooner 1 = .ok (.getfield 10, 3) := by decide +kernel
theorem dX7_sooner_4 : decode cX7_sooner 4 = .ok (.iload_n 1, 1) := by decide +kernel
theorem dX7_sooner_5 : decode cX7_sooner 5 = .ok (.invokevirtual 101, 3) := by decide +kernel
theorem dX7_sooner_8 : decode cX7_sooner 8 = .ok (.ifCond .eq 10, 3) := by decide +kernel
theorem dX7_sooner_11 : decode cX7_sooner 11 = .ok (.lload_n 2, 1) := by decide +kernel
theorem dX7_sooner_12 : decode cX7_sooner 12 = .ok (.invokestatic 104, 3) := by decide +kernel
theorem dX7_sooner_15 : decode cX7_sooner 15 = .ok (.ifCond .ne 5, 3) := by decide +kernel
theorem dX7_sooner_18 : decode cX7_sooner 18 = .ok (.iconst (-1), 1) := by decide +kernel
theorem dX7_sooner_19 : decode cX7_sooner 19 = .ok (.ireturn, 1) := by decide +kernel
theorem dX7_sooner_20 : decode cX7_sooner 20 = .ok (.aload_n 0, 1) := by decide +kernel
theorem dX7_sooner_21 : decode cX7_sooner 21 = .ok (.getfield 36, 3) := by decide +kernel
theorem dX7_sooner_24 : decode cX7_sooner 24 = .ok (.aload_n 0, 1) := by decide +kernel
theorem dX7_sooner_25 : decode cX7_sooner 25 = .ok (.getfield 10, 3) := by decide +kernel
theorem dX7_sooner_28 : decode cX7_sooner 28 = .ok (.getfield 108, 3) := by decide +kernel
theorem dX7_sooner_31 : decode cX7_sooner 31 = .ok (.iload_n 1, 1) := by decide +kernel
theorem dX7_sooner_32 : decode cX7_sooner 32 = .ok (.aaload, 1) := by decide +kernel
theorem dX7_sooner_33 : decode cX7_sooner 33 = .ok (.invokevirtual 189, 3) := by decide +kernel
theorem dX7_sooner_36 : decode cX7_sooner 36 = .ok (.aload_n 0, 1) := by decide +kernel
theorem dX7_sooner_37 : decode cX7_sooner 37 = .ok (.getfield 36, 3) := by decide +kernel
theorem dX7_sooner_40 : decode cX7_sooner 40 = .ok (.invokevirtual 259, 3) := by decide +kernel
theorem dX7_sooner_43 : decode cX7_sooner 43 = .ok (.istore 4, 2) := by decide +kernel
theorem dX7_sooner_45 : decode cX7_sooner 45 = .ok (.aload_n 0, 1) := by decide +kernel
theorem dX7_sooner_46 : decode cX7_sooner 46 = .ok (.getfield 29, 3) := by decide +kernel
theorem dX7_sooner_49 : decode cX7_sooner 49 = .ok (.aload_n 0, 1) := by decide +kernel
theorem dX7_sooner_50 : decode cX7_sooner 50 = .ok (.getfield 10, 3) := by decide +kernel
theorem dX7_sooner_53 : decode cX7_sooner 53 = .ok (.getfield 108, 3) := by decide +kernel
theorem dX7_sooner_56 : decode cX7_sooner 56 = .ok (.iload_n 1, 1) := by decide +kernel
theorem dX7_sooner_57 : decode cX7_sooner 57 = .ok (.aaload, 1) := by decide +kernel
theorem dX7_sooner_58 : decode cX7_sooner 58 = .ok (.invokevirtual 256, 3) := by decide +kernel
theorem dX7_sooner_61 : decode cX7_sooner 61 = .ok (.aload_n 0, 1) := by decide +kernel
theorem dX7_sooner_62 : decode cX7_sooner 62 = .ok (.getfield 29, 3) := by decide +kernel
theorem dX7_sooner_65 : decode cX7_sooner 65 = .ok (.lload_n 2, 1) := by decide +kernel
theorem dX7_sooner_66 : decode cX7_sooner 66 = .ok (.invokevirtual 112, 3) := by decide +kernel
theorem dX7_sooner_69 : decode cX7_sooner 69 = .ok (.pop2, 1) := by decide +kernel
theorem dX7_sooner_70 : decode cX7_sooner 70 = .ok (.aload_n 0, 1) := by decide +kernel
theorem dX7_sooner_71 : decode cX7_sooner 71 = .ok (.getfield 36, 3) := by decide +kernel
theorem dX7_sooner_74 : decode cX7_sooner 74 = .ok (.aload_n 0, 1) := by decide +kernel
theorem dX7_sooner_75 : decode cX7_sooner 75 = .ok (.getfield 29, 3) := by decide +kernel
theorem dX7_sooner_78 : decode cX7_sooner 78 = .ok (.invokevirtual 189, 3) := by decide +kernel
theorem dX7_sooner_81 : decode cX7_sooner 81 = .ok (.iconst 0, 1) := by decide +kernel
theorem dX7_sooner_82 : decode cX7_sooner 82 = .ok (.iload 4, 2) := by decide +kernel
theorem dX7_sooner_84 : decode cX7_sooner 84 = .ok (.aload_n 0, 1) := by decide +kernel
theorem dX7_sooner_85 : decode cX7_sooner 85 = .ok (.getfield 36, 3) := by decide +kernel
theorem dX7_sooner_88 : decode cX7_sooner 88 = .ok (.invokevirtual 259, 3) := by decide +kernel
theorem dX7_sooner_91 : decode cX7_sooner 91 = .ok (.isub, 1) := by decide +kernel
theorem dX7_sooner_92 : decode cX7_sooner 92 = .ok (.invokestatic 262, 3) := by decide +kernel
theorem dX7_sooner_95 : decode cX7_sooner 95 = .ok (.ireturn, 1) := by decide +kernel
theorem dX7_judge_0 : decode cX7_judge 0 = .ok (.iload_n 1, 1) := by decide +kernel
theorem dX7_judge_1 : decode cX7_judge 1 = .ok (.invokestatic 268, 3) := by decide +kernel
theorem dX7_judge_4 : decode cX7_judge 4 = .ok (.ifCond .eq 14, 3) := by decide +kernel
theorem dX7_judge_7 : decode cX7_judge 7 = .ok (.aload_n 0, 1) := by decide +kernel
theorem dX7_judge_8 : decode cX7_judge 8 = .ok (.getfield 10, 3) := by decide +kernel
theorem dX7_judge_11 : decode cX7_judge 11 = .ok (.iload_n 2, 1) := by decide +kernel
theorem dX7_judge_12 : decode cX7_judge 12 = .ok (.invokevirtual 101, 3) := by decide +kernel
theorem dX7_judge_15 : decode cX7_judge 15 = .ok (.ifCond .ne 5, 3) := by decide +kernel
theorem dX7_judge_18 : decode cX7_judge 18 = .ok (.iconst (-1), 1) := by decide +kernel
theorem dX7_judge_19 : decode cX7_judge 19 = .ok (.ireturn, 1) := by decide +kernel
theorem dX7_judge_20 : decode cX7_judge 20 = .ok (.aload_n 0, 1) := by decide +kernel
theorem dX7_judge_21 : decode cX7_judge 21 = .ok (.getfield 49, 3) := by decide +kernel
theorem dX7_judge_24 : decode cX7_judge 24 = .ok (.iload_n 1, 1) := by decide +kernel
theorem dX7_judge_25 : decode cX7_judge 25 = .ok (.aaload, 1) := by decide +kernel
theorem dX7_judge_26 : decode cX7_judge 26 = .ok (.astore_n 3, 1) := by decide +kernel
theorem dX7_judge_27 : decode cX7_judge 27 = .ok (.aload_n 3, 1) := by decide +kernel
theorem dX7_judge_28 : decode cX7_judge 28 = .ok (.getfield 271, 3) := by decide +kernel
theorem dX7_judge_31 : decode cX7_judge 31 = .ok (.iconst 3, 1) := by decide +kernel
theorem dX7_judge_32 : decode cX7_judge 32 = .ok (.if_icmp .eq 18, 3) := by decide +kernel
theorem dX7_judge_35 : decode cX7_judge 35 = .ok (.aload_n 3, 1) := by decide +kernel
theorem dX7_judge_36 : decode cX7_judge 36 = .ok (.getfield 271, 3) := by decide +kernel
theorem dX7_judge_39 : decode cX7_judge 39 = .ok (.ifCond .ne 8, 3) := by decide +kernel
theorem dX7_judge_42 : decode cX7_judge 42 = .ok (.bipush (-11), 2) := by decide +kernel
theorem dX7_judge_44 : decode cX7_judge 44 = .ok (.goto 5, 3) := by decide +kernel
theorem dX7_judge_47 : decode cX7_judge 47 = .ok (.bipush (-12), 2) := by decide +kernel
theorem dX7_judge_49 : decode cX7_judge 49 = .ok (.ireturn, 1) := by decide +kernel
theorem dX7_judge_50 : decode cX7_judge 50 = .ok (.aload_n 0, 1) := by decide +kernel
theorem dX7_judge_51 : decode cX7_judge 51 = .ok (.getfield 36, 3) := by decide +kernel
theorem dX7_judge_54 : decode cX7_judge 54 = .ok (.aload_n 0, 1) := by decide +kernel
theorem dX7_judge_55 : decode cX7_judge 55 = .ok (.getfield 10, 3) := by decide +kernel
theorem dX7_judge_58 : decode cX7_judge 58 = .ok (.getfield 108, 3) := by decide +kernel
theorem dX7_judge_61 : decode cX7_judge 61 = .ok (.iload_n 2, 1) := by decide +kernel
theorem dX7_judge_62 : decode cX7_judge 62 = .ok (.aaload, 1) := by decide +kernel
theorem dX7_judge_63 : decode cX7_judge 63 = .ok (.invokevirtual 189, 3) := by decide +kernel
theorem dX7_judge_66 : decode cX7_judge 66 = .ok (.aload_n 0, 1) := by decide +kernel
theorem dX7_judge_67 : decode cX7_judge 67 = .ok (.getfield 36, 3) := by decide +kernel
theorem dX7_judge_70 : decode cX7_judge 70 = .ok (.invokevirtual 220, 3) := by decide +kernel
theorem dX7_judge_73 : decode cX7_judge 73 = .ok (.istore 4, 2) := by decide +kernel
theorem dX7_judge_75 : decode cX7_judge 75 = .ok (.iconst 0, 1) := by decide +kernel
theorem dX7_judge_76 : decode cX7_judge 76 = .ok (.istore 5, 2) := by decide +kernel
theorem dX7_judge_78 : decode cX7_judge 78 = .ok (.iload 5, 2) := by decide +kernel
theorem dX7_judge_80 : decode cX7_judge 80 = .ok (.aload_n 3, 1) := by decide +kernel
theorem dX7_judge_81 : decode cX7_judge 81 = .ok (.getfield 274, 3) := by decide +kernel
theorem dX7_judge_84 : decode cX7_judge 84 = .ok (.if_icmp .ge 47, 3) := by decide +kernel
theorem dX7_judge_87 : decode cX7_judge 87 = .ok (.iload 5, 2) := by decide +kernel
theorem dX7_judge_89 : decode cX7_judge 89 = .ok (.iload 4, 2) := by decide +kernel
theorem dX7_judge_91 : decode cX7_judge 91 = .ok (.if_icmp .ge 31, 3) := by decide +kernel
theorem dX7_judge_94 : decode cX7_judge 94 = .ok (.aload_n 3, 1) := by decide +kernel
theorem dX7_judge_95 : decode cX7_judge 95 = .ok (.getfield 275, 3) := by decide +kernel
theorem dX7_judge_98 : decode cX7_judge 98 = .ok (.iload 5, 2) := by decide +kernel
theorem dX7_judge_100 : decode cX7_judge 100 = .ok (.laload, 1) := by decide +kernel
theorem dX7_judge_101 : decode cX7_judge 101 = .ok (.aload_n 0, 1) := by decide +kernel
theorem dX7_judge_102 : decode cX7_judge 102 = .ok (.getfield 36, 3) := by decide +kernel
theorem dX7_judge_105 : decode cX7_judge 105 = .ok (.getfield 215, 3) := by decide +kernel
theorem dX7_judge_108 : decode cX7_judge 108 = .ok (.aload_n 0, 1) := by decide +kernel
theorem dX7_judge_109 : decode cX7_judge 109 = .ok (.getfield 36, 3) := by decide +kernel
theorem dX7_judge_112 : decode cX7_judge 112 = .ok (.iload 5, 2) := by decide +kernel
theorem dX7_judge_114 : decode cX7_judge 114 = .ok (.invokevirtual 211, 3) := by decide +kernel
theorem dX7_judge_117 : decode cX7_judge 117 = .ok (.laload, 1) := by decide +kernel
theorem dX7_judge_118 : decode cX7_judge 118 = .ok (.lcmp, 1) := by decide +kernel
theorem dX7_judge_119 : decode cX7_judge 119 = .ok (.ifCond .eq 6, 3) := by decide +kernel
theorem dX7_judge_122 : decode cX7_judge 122 = .ok (.iload 5, 2) := by decide +kernel
theorem dX7_judge_124 : decode cX7_judge 124 = .ok (.ireturn, 1) := by decide +kernel
theorem dX7_judge_125 : decode cX7_judge 125 = .ok (.iinc 5 1, 3) := by decide +kernel
theorem dX7_judge_128 : decode cX7_judge 128 = .ok (.goto (-50), 3) := by decide +kernel
theorem dX7_judge_131 : decode cX7_judge 131 = .ok (.iload 4, 2) := by decide +kernel
theorem dX7_judge_133 : decode cX7_judge 133 = .ok (.aload_n 3, 1) := by decide +kernel
theorem dX7_judge_134 : decode cX7_judge 134 = .ok (.getfield 274, 3) := by decide +kernel
theorem dX7_judge_137 : decode cX7_judge 137 = .ok (.if_icmp .le 10, 3) := by decide +kernel
theorem dX7_judge_140 : decode cX7_judge 140 = .ok (.aload_n 3, 1) := by decide +kernel
theorem dX7_judge_141 : decode cX7_judge 141 = .ok (.getfield 274, 3) := by decide +kernel
theorem dX7_judge_144 : decode cX7_judge 144 = .ok (.goto 5, 3) := by decide +kernel
theorem dX7_judge_147 : decode cX7_judge 147 = .ok (.bipush (-2), 2) := by decide +kernel
theorem dX7_judge_149 : decode cX7_judge 149 = .ok (.ireturn, 1) := by decide +kernel
theorem dX7_feed_0 : decode cX7_feed 0 = .ok (.iload_n 1, 1) := by decide +kernel
theorem dX7_feed_1 : decode cX7_feed 1 = .ok (.iconst 0, 1) := by decide +kernel
theorem dX7_feed_2 : decode cX7_feed 2 = .ok (.sipush 255, 3) := by decide +kernel
theorem dX7_feed_5 : decode cX7_feed 5 = .ok (.invokestatic 67, 3) := by decide +kernel
theorem dX7_feed_8 : decode cX7_feed 8 = .ok (.ifCond .ne 5, 3) := by decide +kernel
theorem dX7_feed_11 : decode cX7_feed 11 = .ok (.iconst (-1), 1) := by decide +kernel
theorem dX7_feed_12 : decode cX7_feed 12 = .ok (.ireturn, 1) := by decide +kernel
theorem dX7_feed_13 : decode cX7_feed 13 = .ok (.aload_n 0, 1) := by decide +kernel
theorem dX7_feed_14 : decode cX7_feed 14 = .ok (.getfield 43, 3) := by decide +kernel
theorem dX7_feed_17 : decode cX7_feed 17 = .ok (.getfield 278, 3) := by decide +kernel
theorem dX7_feed_20 : decode cX7_feed 20 = .ok (.bipush 120, 2) := by decide +kernel
theorem dX7_feed_22 : decode cX7_feed 22 = .ok (.if_icmp .lt 6, 3) := by decide +kernel
theorem dX7_feed_25 : decode cX7_feed 25 = .ok (.bipush (-3), 2) := by decide +kernel
theorem dX7_feed_27 : decode cX7_feed 27 = .ok (.ireturn, 1) := by decide +kernel
theorem dX7_feed_28 : decode cX7_feed 28 = .ok (.aload_n 0, 1) := by decide +kernel
theorem dX7_feed_29 : decode cX7_feed 29 = .ok (.getfield 43, 3) := by decide +kernel
theorem dX7_feed_32 : decode cX7_feed 32 = .ok (.getfield 281, 3) := by decide +kernel
theorem dX7_feed_35 : decode cX7_feed 35 = .ok (.aload_n 0, 1) := by decide +kernel
theorem dX7_feed_36 : decode cX7_feed 36 = .ok (.getfield 43, 3) := by decide +kernel
theorem dX7_feed_39 : decode cX7_feed 39 = .ok (.getfield 278, 3) := by decide +kernel
theorem dX7_feed_42 : decode cX7_feed 42 = .ok (.iload_n 1, 1) := by decide +kernel
theorem dX7_feed_43 : decode cX7_feed 43 = .ok (.iastore, 1) := by decide +kernel
theorem dX7_feed_44 : decode cX7_feed 44 = .ok (.aload_n 0, 1) := by decide +kernel
theorem dX7_feed_45 : decode cX7_feed 45 = .ok (.getfield 43, 3) := by decide +kernel
theorem dX7_feed_48 : decode cX7_feed 48 = .ok (.dup, 1) := by decide +kernel
theorem dX7_feed_49 : decode cX7_feed 49 = .ok (.getfield 278, 3) := by decide +kernel
theorem dX7_feed_52 : decode cX7_feed 52 = .ok (.iconst 1, 1) := by decide +kernel
theorem dX7_feed_53 : decode cX7_feed 53 = .ok (.iadd, 1) := by decide +kernel
theorem dX7_feed_54 : decode cX7_feed 54 = .ok (.putfield 278, 3) := by decide +kernel
theorem dX7_feed_57 : decode cX7_feed 57 = .ok (.aload_n 0, 1) := by decide +kernel
theorem dX7_feed_58 : decode cX7_feed 58 = .ok (.getfield 43, 3) := by decide +kernel
theorem dX7_feed_61 : decode cX7_feed 61 = .ok (.getfield 278, 3) := by decide +kernel
theorem dX7_feed_64 : decode cX7_feed 64 = .ok (.ireturn, 1) := by decide +kernel
theorem dX7_script_0 : decode cX7_script 0 = .ok (.aload_n 0, 1) := by decide +kernel
theorem dX7_script_1 : decode cX7_script 1 = .ok (.getfield 43, 3) := by decide +kernel
theorem dX7_script_4 : decode cX7_script 4 = .ok (.invokevirtual 284, 3) := by decide +kernel
theorem dX7_script_7 : decode cX7_script 7 = .ok (.istore_n 1, 1) := by decide +kernel
theorem dX7_script_8 : decode cX7_script 8 = .ok (.iload_n 1, 1) := by decide +kernel
theorem dX7_script_9 : decode cX7_script 9 = .ok (.iconst (-1), 1) := by decide +kernel
theorem dX7_script_10 : decode cX7_script 10 = .ok (.if_icmp .eq 17, 3) := by decide +kernel
theorem dX7_script_13 : decode cX7_script 13 = .ok (.aload_n 0, 1) := by decide +kernel
theorem dX7_script_14 : decode cX7_script 14 = .ok (.getfield 43, 3) := by decide +kernel
theorem dX7_script_17 : decode cX7_script 17 = .ok (.iconst 0, 1) := by decide +kernel
theorem dX7_script_18 : decode cX7_script 18 = .ok (.putfield 278, 3) := by decide +kernel
theorem dX7_script_21 : decode cX7_script 21 = .ok (.sipush (-1000), 3) := by decide +kernel
theorem dX7_script_24 : decode cX7_script 24 = .ok (.iload_n 1, 1) := by decide +kernel
theorem dX7_script_25 : decode cX7_script 25 = .ok (.isub, 1) := by decide +kernel
theorem dX7_script_26 : decode cX7_script 26 = .ok (.ireturn, 1) := by decide +kernel
theorem dX7_script_27 : decode cX7_script 27 = .ok (.aload_n 0, 1) := by decide +kernel
theorem dX7_script_28 : decode cX7_script 28 = .ok (.getfield 16, 3) := by decide +kernel
theorem dX7_script_31 : decode cX7_script 31 = .ok (.aload_n 0, 1) := by decide +kernel
theorem dX7_script_32 : decode cX7_script 32 = .ok (.getfield 10, 3) := by decide +kernel
theorem dX7_script_35 : decode cX7_script 35 = .ok (.invokevirtual 287, 3) := by decide +kernel
theorem dX7_script_38 : decode cX7_script 38 = .ok (.aload_n 0, 1) := by decide +kernel
theorem dX7_script_39 : decode cX7_script 39 = .ok (.getfield 43, 3) := by decide +kernel
theorem dX7_script_42 : decode cX7_script 42 = .ok (.iconst 0, 1) := by decide +kernel
theorem dX7_script_43 : decode cX7_script 43 = .ok (.putfield 290, 3) := by decide +kernel
theorem dX7_script_46 : decode cX7_script 46 = .ok (.iconst 0, 1) := by decide +kernel
theorem dX7_script_47 : decode cX7_script 47 = .ok (.istore_n 2, 1) := by decide +kernel
theorem dX7_script_48 : decode cX7_script 48 = .ok (.iconst 0, 1) := by decide +kernel
theorem dX7_script_49 : decode cX7_script 49 = .ok (.istore_n 3, 1) := by decide +kernel
theorem dX7_script_50 : decode cX7_script 50 = .ok (.iload_n 2, 1) := by decide +kernel
theorem dX7_script_51 : decode cX7_script 51 = .ok (.bipush 120, 2) := by decide +kernel
theorem dX7_script_53 : decode cX7_script 53 = .ok (.if_icmp .ge 55, 3) := by decide +kernel
theorem dX7_script_56 : decode cX7_script 56 = .ok (.iload_n 3, 1) := by decide +kernel
theorem dX7_script_57 : decode cX7_script 57 = .ok (.ifCond .ne 51, 3) := by decide +kernel
theorem dX7_script_60 : decode cX7_script 60 = .ok (.aload_n 0, 1) := by decide +kernel
theorem dX7_script_61 : decode cX7_script 61 = .ok (.getfield 43, 3) := by decide +kernel
theorem dX7_script_64 : decode cX7_script 64 = .ok (.invokevirtual 293, 3) := by decide +kernel
theorem dX7_script_67 : decode cX7_script 67 = .ok (.ifCond .eq 41, 3) := by decide +kernel
theorem dX7_script_70 : decode cX7_script 70 = .ok (.aload_n 0, 1) := by decide +kernel
theorem dX7_script_71 : decode cX7_script 71 = .ok (.invokevirtual 296, 3) := by decide +kernel
theorem dX7_script_74 : decode cX7_script 74 = .ok (.lconst 0, 1) := by decide +kernel
theorem dX7_script_75 : decode cX7_script 75 = .ok (.lcmp, 1) := by decide +kernel
theorem dX7_script_76 : decode cX7_script 76 = .ok (.ifCond .ge 7, 3) := by decide +kernel
theorem dX7_script_79 : decode cX7_script 79 = .ok (.iconst 1, 1) := by decide +kernel
theorem dX7_script_80 : decode cX7_script 80 = .ok (.goto 4, 3) := by decide +kernel
theorem dX7_script_83 : decode cX7_script 83 = .ok (.iconst 0, 1) := by decide +kernel
theorem dX7_script_84 : decode cX7_script 84 = .ok (.istore_n 3, 1) := by decide +kernel
theorem dX7_script_85 : decode cX7_script 85 = .ok (.iload_n 3, 1) := by decide +kernel
theorem dX7_script_86 : decode cX7_script 86 = .ok (.ifCond .ne (-36), 3) := by decide +kernel
theorem dX7_script_89 : decode cX7_script 89 = .ok (.iinc 2 1, 3) := by decide +kernel
theorem dX7_script_92 : decode cX7_script 92 = .ok (.aload_n 0, 1) := by decide +kernel
theorem dX7_script_93 : decode cX7_script 93 = .ok (.getfield 43, 3) := by decide +kernel
theorem dX7_script_96 : decode cX7_script 96 = .ok (.dup, 1) := by decide +kernel
theorem dX7_script_97 : decode cX7_script 97 = .ok (.getfield 290, 3) := by decide +kernel
theorem dX7_script_100 : decode cX7_script 100 = .ok (.iconst 1, 1) := by decide +kernel
theorem dX7_script_101 : decode cX7_script 101 = .ok (.iadd, 1) := by decide +kernel
theorem dX7_script_102 : decode cX7_script 102 = .ok (.putfield 290, 3) := by decide +kernel
theorem dX7_script_105 : decode cX7_script 105 = .ok (.goto (-55), 3) := by decide +kernel
theorem dX7_script_108 : decode cX7_script 108 = .ok (.aload_n 0, 1) := by decide +kernel
theorem dX7_script_109 : decode cX7_script 109 = .ok (.getfield 43, 3) := by decide +kernel
theorem dX7_script_112 : decode cX7_script 112 = .ok (.iconst 0, 1) := by decide +kernel
theorem dX7_script_113 : decode cX7_script 113 = .ok (.putfield 278, 3) := by decide +kernel
theorem dX7_script_116 : decode cX7_script 116 = .ok (.iload_n 3, 1) := by decide +kernel
theorem dX7_script_117 : decode cX7_script 117 = .ok (.ifCond .eq 20, 3) := by decide +kernel
theorem dX7_script_120 : decode cX7_script 120 = .ok (.aload_n 0, 1) := by decide +kernel
theorem dX7_script_121 : decode cX7_script 121 = .ok (.getfield 10, 3) := by decide +kernel
theorem dX7_script_124 : decode cX7_script 124 = .ok (.aload_n 0, 1) := by decide +kernel
theorem dX7_script_125 : decode cX7_script 125 = .ok (.getfield 16, 3) := by decide +kernel
theorem dX7_script_128 : decode cX7_script 128 = .ok (.invokevirtual 287, 3) := by decide +kernel
theorem dX7_script_131 : decode cX7_script 131 = .ok (.sipush (-2000), 3) := by decide +kernel
theorem dX7_script_134 : decode cX7_script 134 = .ok (.iload_n 2, 1) := by decide +kernel
theorem dX7_script_135 : decode cX7_script 135 = .ok (.isub, 1) := by decide +kernel
theorem dX7_script_136 : decode cX7_script 136 = .ok (.ireturn, 1) := by decide +kernel
theorem dX7_script_137 : decode cX7_script 137 = .ok (.iload_n 2, 1) := by decide +kernel
theorem dX7_script_138 : decode cX7_script 138 = .ok (.ireturn, 1) := by decide +kernel
theorem dX7_image_0 : decode cX7_image 0 = .ok (.aload_n 0, 1) := by decide +kernel
theorem dX7_image_1 : decode cX7_image 1 = .ok (.getfield 19, 3) := by decide +kernel
theorem dX7_image_4 : decode cX7_image 4 = .ok (.aload_n 0, 1) := by decide +kernel
theorem dX7_image_5 : decode cX7_image 5 = .ok (.getfield 10, 3) := by decide +kernel
theorem dX7_image_8 : decode cX7_image 8 = .ok (.invokevirtual 287, 3) := by decide +kernel
theorem dX7_image_11 : decode cX7_image 11 = .ok (.aload_n 0, 1) := by decide +kernel
theorem dX7_image_12 : decode cX7_image 12 = .ok (.iconst 1, 1) := by decide +kernel
theorem dX7_image_13 : decode cX7_image 13 = .ok (.putfield 22, 3) := by decide +kernel
theorem dX7_image_16 : decode cX7_image 16 = .ok (.aload_n 0, 1) := by decide +kernel
theorem dX7_image_17 : decode cX7_image 17 = .ok (.getfield 10, 3) := by decide +kernel
theorem dX7_image_20 : decode cX7_image 20 = .ok (.getfield 93, 3) := by decide +kernel
theorem dX7_image_23 : decode cX7_image 23 = .ok (.ireturn, 1) := by decide +kernel
theorem dX7_back_0 : decode cX7_back 0 = .ok (.aload_n 0, 1) := by decide +kernel
theorem dX7_back_1 : decode cX7_back 1 = .ok (.getfield 22, 3) := by decide +kernel
theorem dX7_back_4 : decode cX7_back 4 = .ok (.ifCond .ne 6, 3) := by decide +kernel
theorem dX7_back_7 : decode cX7_back 7 = .ok (.bipush (-5), 2) := by decide +kernel
theorem dX7_back_9 : decode cX7_back 9 = .ok (.ireturn, 1) := by decide +kernel
theorem dX7_back_10 : decode cX7_back 10 = .ok (.aload_n 0, 1) := by decide +kernel
theorem dX7_back_11 : decode cX7_back 11 = .ok (.getfield 10, 3) := by decide +kernel
theorem dX7_back_14 : decode cX7_back 14 = .ok (.aload_n 0, 1) := by decide +kernel
theorem dX7_back_15 : decode cX7_back 15 = .ok (.getfield 19, 3) := by decide +kernel
theorem dX7_back_18 : decode cX7_back 18 = .ok (.invokevirtual 287, 3) := by decide +kernel
theorem dX7_back_21 : decode cX7_back 21 = .ok (.iconst 0, 1) := by decide +kernel
theorem dX7_back_22 : decode cX7_back 22 = .ok (.istore_n 1, 1) := by decide +kernel
theorem dX7_back_23 : decode cX7_back 23 = .ok (.iload_n 1, 1) := by decide +kernel
theorem dX7_back_24 : decode cX7_back 24 = .ok (.bipush 6, 2) := by decide +kernel
theorem dX7_back_26 : decode cX7_back 26 = .ok (.if_icmp .ge 51, 3) := by decide +kernel
theorem dX7_back_29 : decode cX7_back 29 = .ok (.aload_n 0, 1) := by decide +kernel
theorem dX7_back_30 : decode cX7_back 30 = .ok (.getfield 49, 3) := by decide +kernel
theorem dX7_back_33 : decode cX7_back 33 = .ok (.iload_n 1, 1) := by decide +kernel
theorem dX7_back_34 : decode cX7_back 34 = .ok (.aaload, 1) := by decide +kernel
theorem dX7_back_35 : decode cX7_back 35 = .ok (.getfield 271, 3) := by decide +kernel
theorem dX7_back_38 : decode cX7_back 38 = .ok (.iconst 1, 1) := by decide +kernel
theorem dX7_back_39 : decode cX7_back 39 = .ok (.if_icmp .ne 32, 3) := by decide +kernel
theorem dX7_back_42 : decode cX7_back 42 = .ok (.aload_n 0, 1) := by decide +kernel
theorem dX7_back_43 : decode cX7_back 43 = .ok (.getfield 10, 3) := by decide +kernel
theorem dX7_back_46 : decode cX7_back 46 = .ok (.aload_n 0, 1) := by decide +kernel
theorem dX7_back_47 : decode cX7_back 47 = .ok (.getfield 49, 3) := by decide +kernel
theorem dX7_back_50 : decode cX7_back 50 = .ok (.iload_n 1, 1) := by decide +kernel
theorem dX7_back_51 : decode cX7_back 51 = .ok (.aaload, 1) := by decide +kernel
theorem dX7_back_52 : decode cX7_back 52 = .ok (.getfield 299, 3) := by decide +kernel
theorem dX7_back_55 : decode cX7_back 55 = .ok (.invokevirtual 101, 3) := by decide +kernel
theorem dX7_back_58 : decode cX7_back 58 = .ok (.ifCond .ne 13, 3) := by decide +kernel
theorem dX7_back_61 : decode cX7_back 61 = .ok (.aload_n 0, 1) := by decide +kernel
theorem dX7_back_62 : decode cX7_back 62 = .ok (.getfield 49, 3) := by decide +kernel
theorem dX7_back_65 : decode cX7_back 65 = .ok (.iload_n 1, 1) := by decide +kernel
theorem dX7_back_66 : decode cX7_back 66 = .ok (.aaload, 1) := by decide +kernel
theorem dX7_back_67 : decode cX7_back 67 = .ok (.iconst 0, 1) := by decide +kernel
theorem dX7_back_68 : decode cX7_back 68 = .ok (.putfield 271, 3) := by decide +kernel
theorem dX7_back_71 : decode cX7_back 71 = .ok (.iinc 1 1, 3) := by decide +kernel
theorem dX7_back_74 : decode cX7_back 74 = .ok (.goto (-51), 3) := by decide +kernel
theorem dX7_back_77 : decode cX7_back 77 = .ok (.aload_n 0, 1) := by decide +kernel
theorem dX7_back_78 : decode cX7_back 78 = .ok (.getfield 10, 3) := by decide +kernel
theorem dX7_back_81 : decode cX7_back 81 = .ok (.getfield 93, 3) := by decide +kernel
theorem dX7_back_84 : decode cX7_back 84 = .ok (.ireturn, 1) := by decide +kernel
theorem dX7_hold_0 : decode cX7_hold 0 = .ok (.iload_n 1, 1) := by decide +kernel
theorem dX7_hold_1 : decode cX7_hold 1 = .ok (.invokestatic 268, 3) := by decide +kernel
theorem dX7_hold_4 : decode cX7_hold 4 = .ok (.ifCond .eq 19, 3) := by decide +kernel
theorem dX7_hold_7 : decode cX7_hold 7 = .ok (.aload_n 0, 1) := by decide +kernel
theorem dX7_hold_8 : decode cX7_hold 8 = .ok (.getfield 10, 3) := by decide +kernel
theorem dX7_hold_11 : decode cX7_hold 11 = .ok (.iload_n 2, 1) := by decide +kernel
theorem dX7_hold_12 : decode cX7_hold 12 = .ok (.invokevirtual 101, 3) := by decide +kernel
theorem dX7_hold_15 : decode cX7_hold 15 = .ok (.ifCond .eq 8, 3) := by decide +kernel
theorem dX7_hold_18 : decode cX7_hold 18 = .ok (.iload_n 3, 1) := by decide +kernel
theorem dX7_hold_19 : decode cX7_hold 19 = .ok (.iconst (-1), 1) := by decide +kernel
theorem dX7_hold_20 : decode cX7_hold 20 = .ok (.if_icmp .ge 5, 3) := by decide +kernel
theorem dX7_hold_23 : decode cX7_hold 23 = .ok (.iconst (-1), 1) := by decide +kernel
theorem dX7_hold_24 : decode cX7_hold 24 = .ok (.ireturn, 1) := by decide +kernel
theorem dX7_hold_25 : decode cX7_hold 25 = .ok (.iload_n 3, 1) := by decide +kernel
theorem dX7_hold_26 : decode cX7_hold 26 = .ok (.iconst (-1), 1) := by decide +kernel
theorem dX7_hold_27 : decode cX7_hold 27 = .ok (.if_icmp .ne 15, 3) := by decide +kernel
theorem dX7_hold_30 : decode cX7_hold 30 = .ok (.aload_n 0, 1) := by decide +kernel
theorem dX7_hold_31 : decode cX7_hold 31 = .ok (.getfield 49, 3) := by decide +kernel
theorem dX7_hold_34 : decode cX7_hold 34 = .ok (.iload_n 1, 1) := by decide +kernel
theorem dX7_hold_35 : decode cX7_hold 35 = .ok (.aaload, 1) := by decide +kernel
theorem dX7_hold_36 : decode cX7_hold 36 = .ok (.iload_n 2, 1) := by decide +kernel
theorem dX7_hold_37 : decode cX7_hold 37 = .ok (.invokevirtual 302, 3) := by decide +kernel
theorem dX7_hold_40 : decode cX7_hold 40 = .ok (.iconst 1, 1) := by decide +kernel
theorem dX7_hold_41 : decode cX7_hold 41 = .ok (.ireturn, 1) := by decide +kernel
theorem dX7_hold_42 : decode cX7_hold 42 = .ok (.aload_n 0, 1) := by decide +kernel
theorem dX7_hold_43 : decode cX7_hold 43 = .ok (.getfield 10, 3) := by decide +kernel
theorem dX7_hold_46 : decode cX7_hold 46 = .ok (.getfield 108, 3) := by decide +kernel
theorem dX7_hold_49 : decode cX7_hold 49 = .ok (.iload_n 2, 1) := by decide +kernel
theorem dX7_hold_50 : decode cX7_hold 50 = .ok (.aaload, 1) := by decide +kernel
theorem dX7_hold_51 : decode cX7_hold 51 = .ok (.astore 4, 2) := by decide +kernel
theorem dX7_hold_53 : decode cX7_hold 53 = .ok (.aload 4, 2) := by decide +kernel
theorem dX7_hold_55 : decode cX7_hold 55 = .ok (.iload_n 3, 1) := by decide +kernel
theorem dX7_hold_56 : decode cX7_hold 56 = .ok (.invokevirtual 196, 3) := by decide +kernel
theorem dX7_hold_59 : decode cX7_hold 59 = .ok (.istore 5, 2) := by decide +kernel
theorem dX7_hold_61 : decode cX7_hold 61 = .ok (.iload 5, 2) := by decide +kernel
theorem dX7_hold_63 : decode cX7_hold 63 = .ok (.ifCond .ne 6, 3) := by decide +kernel
theorem dX7_hold_66 : decode cX7_hold 66 = .ok (.bipush (-2), 2) := by decide +kernel
theorem dX7_hold_68 : decode cX7_hold 68 = .ok (.ireturn, 1) := by decide +kernel
theorem dX7_hold_69 : decode cX7_hold 69 = .ok (.aload_n 0, 1) := by decide +kernel
theorem dX7_hold_70 : decode cX7_hold 70 = .ok (.getfield 49, 3) := by decide +kernel
theorem dX7_hold_73 : decode cX7_hold 73 = .ok (.iload_n 1, 1) := by decide +kernel
theorem dX7_hold_74 : decode cX7_hold 74 = .ok (.aaload, 1) := by decide +kernel
theorem dX7_hold_75 : decode cX7_hold 75 = .ok (.aload 4, 2) := by decide +kernel
theorem dX7_hold_77 : decode cX7_hold 77 = .ok (.getfield 154, 3) := by decide +kernel
theorem dX7_hold_80 : decode cX7_hold 80 = .ok (.iload 5, 2) := by decide +kernel
theorem dX7_hold_82 : decode cX7_hold 82 = .ok (.iaload, 1) := by decide +kernel
theorem dX7_hold_83 : decode cX7_hold 83 = .ok (.aload 4, 2) := by decide +kernel
theorem dX7_hold_85 : decode cX7_hold 85 = .ok (.iload 5, 2) := by decide +kernel
theorem dX7_hold_87 : decode cX7_hold 87 = .ok (.invokevirtual 306, 3) := by decide +kernel
theorem dX7_hold_90 : decode cX7_hold 90 = .ok (.invokevirtual 310, 3) := by decide +kernel
theorem dX7_hold_93 : decode cX7_hold 93 = .ok (.iconst 1, 1) := by decide +kernel
theorem dX7_hold_94 : decode cX7_hold 94 = .ok (.ireturn, 1) := by decide +kernel
theorem dX7_row_0 : decode cX7_row 0 = .ok (.iload_n 1, 1) := by decide +kernel
theorem dX7_row_1 : decode cX7_row 1 = .ok (.invokestatic 268, 3) := by decide +kernel
theorem dX7_row_4 : decode cX7_row 4 = .ok (.ifCond .eq 9, 3) := by decide +kernel
theorem dX7_row_7 : decode cX7_row 7 = .ok (.iload_n 2, 1) := by decide +kernel
theorem dX7_row_8 : decode cX7_row 8 = .ok (.bipush 60, 2) := by decide +kernel
theorem dX7_row_10 : decode cX7_row 10 = .ok (.if_icmp .le 5, 3) := by decide +kernel
theorem dX7_row_13 : decode cX7_row 13 = .ok (.iconst (-1), 1) := by decide +kernel
theorem dX7_row_14 : decode cX7_row 14 = .ok (.ireturn, 1) := by decide +kernel
theorem dX7_row_15 : decode cX7_row 15 = .ok (.iload_n 2, 1) := by decide +kernel
theorem dX7_row_16 : decode cX7_row 16 = .ok (.iconst (-1), 1) := by decide +kernel
theorem dX7_row_17 : decode cX7_row 17 = .ok (.if_icmp .ge 6, 3) := by decide +kernel
theorem dX7_row_20 : decode cX7_row 20 = .ok (.bipush (-14), 2) := by decide +kernel
theorem dX7_row_22 : decode cX7_row 22 = .ok (.ireturn, 1) := by decide +kernel
theorem dX7_row_23 : decode cX7_row 23 = .ok (.iload_n 2, 1) := by decide +kernel
theorem dX7_row_24 : decode cX7_row 24 = .ok (.iconst (-1), 1) := by decide +kernel
theorem dX7_row_25 : decode cX7_row 25 = .ok (.if_icmp .ne 16, 3) := by decide +kernel
theorem dX7_row_28 : decode cX7_row 28 = .ok (.aload_n 0, 1) := by decide +kernel
theorem dX7_row_29 : decode cX7_row 29 = .ok (.getfield 49, 3) := by decide +kernel
theorem dX7_row_32 : decode cX7_row 32 = .ok (.iload_n 1, 1) := by decide +kernel
theorem dX7_row_33 : decode cX7_row 33 = .ok (.aaload, 1) := by decide +kernel
theorem dX7_row_34 : decode cX7_row 34 = .ok (.iconst 0, 1) := by decide +kernel
theorem dX7_row_35 : decode cX7_row 35 = .ok (.putfield 271, 3) := by decide +kernel
theorem dX7_row_38 : decode cX7_row 38 = .ok (.goto 13, 3) := by decide +kernel
theorem dX7_row_41 : decode cX7_row 41 = .ok (.aload_n 0, 1) := by decide +kernel
theorem dX7_row_42 : decode cX7_row 42 = .ok (.getfield 49, 3) := by decide +kernel
theorem dX7_row_45 : decode cX7_row 45 = .ok (.iload_n 1, 1) := by decide +kernel
theorem dX7_row_46 : decode cX7_row 46 = .ok (.aaload, 1) := by decide +kernel
theorem dX7_row_47 : decode cX7_row 47 = .ok (.iload_n 2, 1) := by decide +kernel
theorem dX7_row_48 : decode cX7_row 48 = .ok (.invokevirtual 314, 3) := by decide +kernel
theorem dX7_row_51 : decode cX7_row 51 = .ok (.iconst 1, 1) := by decide +kernel
theorem dX7_row_52 : decode cX7_row 52 = .ok (.ireturn, 1) := by decide +kernel
theorem dX7_put_0 : decode cX7_put 0 = .ok (.iload_n 1, 1) := by decide +kernel
end
section
theorem dX7_put_1 : decode cX7_put 1 = .ok (.invokestatic 268, 3) := by decide +kernel
theorem dX7_put_4 : decode cX7_put 4 = .ok (.ifCond .ne 5, 3) := by decide +kernel
theorem dX7_put_7 : decode cX7_put 7 = .ok (.iconst (-1), 1) := by decide +kernel
theorem dX7_put_8 : decode cX7_put 8 = .ok (.ireturn, 1) := by decide +kernel
theorem dX7_put_9 : decode cX7_put 9 = .ok (.aload_n 0, 1) := by decide +kernel
theorem dX7_put_10 : decode cX7_put 10 = .ok (.getfield 49, 3) := by decide +kernel
theorem dX7_put_13 : decode cX7_put 13 = .ok (.iload_n 1, 1) := by decide +kernel
theorem dX7_put_14 : decode cX7_put 14 = .ok (.aaload, 1) := by decide +kernel
theorem dX7_put_15 : decode cX7_put 15 = .ok (.astore 5, 2) := by decide +kernel
theorem dX7_put_17 : decode cX7_put 17 = .ok (.aload 5, 2) := by decide +kernel
theorem dX7_put_19 : decode cX7_put 19 = .ok (.getfield 271, 3) := by decide +kernel
theorem dX7_put_22 : decode cX7_put 22 = .ok (.iconst 3, 1) := by decide +kernel
theorem dX7_put_23 : decode cX7_put 23 = .ok (.if_icmp .eq 19, 3) := by decide +kernel
theorem dX7_put_26 : decode cX7_put 26 = .ok (.aload 5, 2) := by decide +kernel
theorem dX7_put_28 : decode cX7_put 28 = .ok (.getfield 271, 3) := by decide +kernel
theorem dX7_put_31 : decode cX7_put 31 = .ok (.ifCond .ne 8, 3) := by decide +kernel
theorem dX7_put_34 : decode cX7_put 34 = .ok (.bipush (-11), 2) := by decide +kernel
theorem dX7_put_36 : decode cX7_put 36 = .ok (.goto 5, 3) := by decide +kernel
theorem dX7_put_39 : decode cX7_put 39 = .ok (.bipush (-12), 2) := by decide +kernel
theorem dX7_put_41 : decode cX7_put 41 = .ok (.ireturn, 1) := by decide +kernel
theorem dX7_put_42 : decode cX7_put 42 = .ok (.iload_n 2, 1) := by decide +kernel
theorem dX7_put_43 : decode cX7_put 43 = .ok (.ifCond .lt 12, 3) := by decide +kernel
theorem dX7_put_46 : decode cX7_put 46 = .ok (.iload_n 2, 1) := by decide +kernel
theorem dX7_put_47 : decode cX7_put 47 = .ok (.aload 5, 2) := by decide +kernel
theorem dX7_put_49 : decode cX7_put 49 = .ok (.getfield 274, 3) := by decide +kernel
theorem dX7_put_52 : decode cX7_put 52 = .ok (.if_icmp .lt 6, 3) := by decide +kernel
theorem dX7_put_55 : decode cX7_put 55 = .ok (.bipush (-13), 2) := by decide +kernel
theorem dX7_put_57 : decode cX7_put 57 = .ok (.ireturn, 1) := by decide +kernel
theorem dX7_put_58 : decode cX7_put 58 = .ok (.aload 5, 2) := by decide +kernel
theorem dX7_put_60 : decode cX7_put 60 = .ok (.getfield 275, 3) := by decide +kernel
theorem dX7_put_63 : decode cX7_put 63 = .ok (.iload_n 2, 1) := by decide +kernel
theorem dX7_put_64 : decode cX7_put 64 = .ok (.lload_n 3, 1) := by decide +kernel
theorem dX7_put_65 : decode cX7_put 65 = .ok (.lastore, 1) := by decide +kernel
theorem dX7_put_66 : decode cX7_put 66 = .ok (.iconst 1, 1) := by decide +kernel
theorem dX7_put_67 : decode cX7_put 67 = .ok (.ireturn, 1) := by decide +kernel
theorem dX7_tells_0 : decode cX7_tells 0 = .ok (.iload_n 1, 1) := by decide +kernel
theorem dX7_tells_1 : decode cX7_tells 1 = .ok (.invokestatic 268, 3) := by decide +kernel
theorem dX7_tells_4 : decode cX7_tells 4 = .ok (.ifCond .eq 12, 3) := by decide +kernel
theorem dX7_tells_7 : decode cX7_tells 7 = .ok (.iload_n 2, 1) := by decide +kernel
theorem dX7_tells_8 : decode cX7_tells 8 = .ok (.iconst 0, 1) := by decide +kernel
theorem dX7_tells_9 : decode cX7_tells 9 = .ok (.iconst 3, 1) := by decide +kernel
theorem dX7_tells_10 : decode cX7_tells 10 = .ok (.invokestatic 67, 3) := by decide +kernel
theorem dX7_tells_13 : decode cX7_tells 13 = .ok (.ifCond .ne 7, 3) := by decide +kernel
theorem dX7_tells_16 : decode cX7_tells 16 = .ok (.ldc2_w 79, 3) := by decide +kernel
theorem dX7_tells_19 : decode cX7_tells 19 = .ok (.lreturn, 1) := by decide +kernel
theorem dX7_tells_20 : decode cX7_tells 20 = .ok (.aload_n 0, 1) := by decide +kernel
theorem dX7_tells_21 : decode cX7_tells 21 = .ok (.getfield 49, 3) := by decide +kernel
theorem dX7_tells_24 : decode cX7_tells 24 = .ok (.iload_n 1, 1) := by decide +kernel
theorem dX7_tells_25 : decode cX7_tells 25 = .ok (.aaload, 1) := by decide +kernel
theorem dX7_tells_26 : decode cX7_tells 26 = .ok (.astore_n 3, 1) := by decide +kernel
theorem dX7_tells_27 : decode cX7_tells 27 = .ok (.aload_n 3, 1) := by decide +kernel
theorem dX7_tells_28 : decode cX7_tells 28 = .ok (.getfield 271, 3) := by decide +kernel
theorem dX7_tells_31 : decode cX7_tells 31 = .ok (.tableswitch 45 1 3 #[25, 35, 41], 25) := by decide +kernel
theorem dX7_tells_56 : decode cX7_tells 56 = .ok (.aload_n 0, 1) := by decide +kernel
theorem dX7_tells_57 : decode cX7_tells 57 = .ok (.aload_n 3, 1) := by decide +kernel
theorem dX7_tells_58 : decode cX7_tells 58 = .ok (.getfield 299, 3) := by decide +kernel
theorem dX7_tells_61 : decode cX7_tells 61 = .ok (.iload_n 2, 1) := by decide +kernel
theorem dX7_tells_62 : decode cX7_tells 62 = .ok (.invokevirtual 317, 3) := by decide +kernel
theorem dX7_tells_65 : decode cX7_tells 65 = .ok (.lreturn, 1) := by decide +kernel
theorem dX7_tells_66 : decode cX7_tells 66 = .ok (.aload_n 3, 1) := by decide +kernel
theorem dX7_tells_67 : decode cX7_tells 67 = .ok (.iload_n 2, 1) := by decide +kernel
theorem dX7_tells_68 : decode cX7_tells 68 = .ok (.invokestatic 321, 3) := by decide +kernel
theorem dX7_tells_71 : decode cX7_tells 71 = .ok (.lreturn, 1) := by decide +kernel
theorem dX7_tells_72 : decode cX7_tells 72 = .ok (.ldc2_w 325, 3) := by decide +kernel
theorem dX7_tells_75 : decode cX7_tells 75 = .ok (.lreturn, 1) := by decide +kernel
theorem dX7_tells_76 : decode cX7_tells 76 = .ok (.ldc2_w 327, 3) := by decide +kernel
theorem dX7_tells_79 : decode cX7_tells 79 = .ok (.lreturn, 1) := by decide +kernel
theorem dX7_count_0 : decode cX7_count 0 = .ok (.iload_n 1, 1) := by decide +kernel
theorem dX7_count_1 : decode cX7_count 1 = .ok (.tableswitch 108 0 7 #[47, 55, 63, 71, 79, 87, 95, 103], 47) := by decide +kernel
theorem dX7_count_48 : decode cX7_count 48 = .ok (.aload_n 0, 1) := by decide +kernel
theorem dX7_count_49 : decode cX7_count 49 = .ok (.getfield 10, 3) := by decide +kernel
theorem dX7_count_52 : decode cX7_count 52 = .ok (.getfield 253, 3) := by decide +kernel
theorem dX7_count_55 : decode cX7_count 55 = .ok (.ireturn, 1) := by decide +kernel
theorem dX7_count_56 : decode cX7_count 56 = .ok (.aload_n 0, 1) := by decide +kernel
theorem dX7_count_57 : decode cX7_count 57 = .ok (.getfield 10, 3) := by decide +kernel
theorem dX7_count_60 : decode cX7_count 60 = .ok (.invokevirtual 329, 3) := by decide +kernel
theorem dX7_count_63 : decode cX7_count 63 = .ok (.ireturn, 1) := by decide +kernel
theorem dX7_count_64 : decode cX7_count 64 = .ok (.aload_n 0, 1) := by decide +kernel
theorem dX7_count_65 : decode cX7_count 65 = .ok (.getfield 10, 3) := by decide +kernel
theorem dX7_count_68 : decode cX7_count 68 = .ok (.getfield 93, 3) := by decide +kernel
theorem dX7_count_71 : decode cX7_count 71 = .ok (.ireturn, 1) := by decide +kernel
theorem dX7_count_72 : decode cX7_count 72 = .ok (.aload_n 0, 1) := by decide +kernel
theorem dX7_count_73 : decode cX7_count 73 = .ok (.getfield 10, 3) := by decide +kernel
theorem dX7_count_76 : decode cX7_count 76 = .ok (.getfield 136, 3) := by decide +kernel
theorem dX7_count_79 : decode cX7_count 79 = .ok (.ireturn, 1) := by decide +kernel
theorem dX7_count_80 : decode cX7_count 80 = .ok (.aload_n 0, 1) := by decide +kernel
theorem dX7_count_81 : decode cX7_count 81 = .ok (.getfield 10, 3) := by decide +kernel
theorem dX7_count_84 : decode cX7_count 84 = .ok (.getfield 139, 3) := by decide +kernel
theorem dX7_count_87 : decode cX7_count 87 = .ok (.ireturn, 1) := by decide +kernel
theorem dX7_count_88 : decode cX7_count 88 = .ok (.aload_n 0, 1) := by decide +kernel
theorem dX7_count_89 : decode cX7_count 89 = .ok (.getfield 10, 3) := by decide +kernel
theorem dX7_count_92 : decode cX7_count 92 = .ok (.invokevirtual 330, 3) := by decide +kernel
theorem dX7_count_95 : decode cX7_count 95 = .ok (.ireturn, 1) := by decide +kernel
theorem dX7_count_96 : decode cX7_count 96 = .ok (.aload_n 0, 1) := by decide +kernel
theorem dX7_count_97 : decode cX7_count 97 = .ok (.getfield 43, 3) := by decide +kernel
theorem dX7_count_100 : decode cX7_count 100 = .ok (.getfield 278, 3) := by decide +kernel
theorem dX7_count_103 : decode cX7_count 103 = .ok (.ireturn, 1) := by decide +kernel
theorem dX7_count_104 : decode cX7_count 104 = .ok (.aload_n 0, 1) := by decide +kernel
theorem dX7_count_105 : decode cX7_count 105 = .ok (.invokevirtual 333, 3) := by decide +kernel
theorem dX7_count_108 : decode cX7_count 108 = .ok (.ireturn, 1) := by decide +kernel
theorem dX7_count_109 : decode cX7_count 109 = .ok (.iconst (-1), 1) := by decide +kernel
theorem dX7_count_110 : decode cX7_count 110 = .ok (.ireturn, 1) := by decide +kernel
theorem dX7_isWithin_0 : decode cX7_isWithin 0 = .ok (.iload_n 0, 1) := by decide +kernel
theorem dX7_isWithin_1 : decode cX7_isWithin 1 = .ok (.iload_n 1, 1) := by decide +kernel
theorem dX7_isWithin_2 : decode cX7_isWithin 2 = .ok (.if_icmp .lt 12, 3) := by decide +kernel
theorem dX7_isWithin_5 : decode cX7_isWithin 5 = .ok (.iload_n 0, 1) := by decide +kernel
theorem dX7_isWithin_6 : decode cX7_isWithin 6 = .ok (.iload_n 2, 1) := by decide +kernel
theorem dX7_isWithin_7 : decode cX7_isWithin 7 = .ok (.if_icmp .gt 7, 3) := by decide +kernel
theorem dX7_isWithin_10 : decode cX7_isWithin 10 = .ok (.iconst 1, 1) := by decide +kernel
theorem dX7_isWithin_11 : decode cX7_isWithin 11 = .ok (.goto 4, 3) := by decide +kernel
theorem dX7_isWithin_14 : decode cX7_isWithin 14 = .ok (.iconst 0, 1) := by decide +kernel
theorem dX7_isWithin_15 : decode cX7_isWithin 15 = .ok (.ireturn, 1) := by decide +kernel
theorem dX7_isDay_0 : decode cX7_isDay 0 = .ok (.iload_n 0, 1) := by decide +kernel
theorem dX7_isDay_1 : decode cX7_isDay 1 = .ok (.iconst 0, 1) := by decide +kernel
theorem dX7_isDay_2 : decode cX7_isDay 2 = .ok (.ldc 97, 2) := by decide +kernel
theorem dX7_isDay_4 : decode cX7_isDay 4 = .ok (.invokestatic 67, 3) := by decide +kernel
theorem dX7_isDay_7 : decode cX7_isDay 7 = .ok (.ireturn, 1) := by decide +kernel
theorem dX7_isRate_0 : decode cX7_isRate 0 = .ok (.iload_n 0, 1) := by decide +kernel
theorem dX7_isRate_1 : decode cX7_isRate 1 = .ok (.iconst 0, 1) := by decide +kernel
theorem dX7_isRate_2 : decode cX7_isRate 2 = .ok (.sipush 5000, 3) := by decide +kernel
theorem dX7_isRate_5 : decode cX7_isRate 5 = .ok (.invokestatic 67, 3) := by decide +kernel
theorem dX7_isRate_8 : decode cX7_isRate 8 = .ok (.ireturn, 1) := by decide +kernel
theorem dX7_isAmount_0 : decode cX7_isAmount 0 = .ok (.lload_n 0, 1) := by decide +kernel
theorem dX7_isAmount_1 : decode cX7_isAmount 1 = .ok (.lconst 1, 1) := by decide +kernel
theorem dX7_isAmount_2 : decode cX7_isAmount 2 = .ok (.lcmp, 1) := by decide +kernel
theorem dX7_isAmount_3 : decode cX7_isAmount 3 = .ok (.ifCond .lt 15, 3) := by decide +kernel
theorem dX7_isAmount_6 : decode cX7_isAmount 6 = .ok (.lload_n 0, 1) := by decide +kernel
theorem dX7_isAmount_7 : decode cX7_isAmount 7 = .ok (.ldc2_w 336, 3) := by decide +kernel
theorem dX7_isAmount_10 : decode cX7_isAmount 10 = .ok (.lcmp, 1) := by decide +kernel
theorem dX7_isAmount_11 : decode cX7_isAmount 11 = .ok (.ifCond .gt 7, 3) := by decide +kernel
theorem dX7_isAmount_14 : decode cX7_isAmount 14 = .ok (.iconst 1, 1) := by decide +kernel
theorem dX7_isAmount_15 : decode cX7_isAmount 15 = .ok (.goto 4, 3) := by decide +kernel
theorem dX7_isAmount_18 : decode cX7_isAmount 18 = .ok (.iconst 0, 1) := by decide +kernel
theorem dX7_isAmount_19 : decode cX7_isAmount 19 = .ok (.ireturn, 1) := by decide +kernel
theorem dX7_isHolder_0 : decode cX7_isHolder 0 = .ok (.iload_n 0, 1) := by decide +kernel
theorem dX7_isHolder_1 : decode cX7_isHolder 1 = .ok (.iconst 0, 1) := by decide +kernel
theorem dX7_isHolder_2 : decode cX7_isHolder 2 = .ok (.iconst 5, 1) := by decide +kernel
theorem dX7_isHolder_3 : decode cX7_isHolder 3 = .ok (.invokestatic 67, 3) := by decide +kernel
theorem dX7_isHolder_6 : decode cX7_isHolder 6 = .ok (.ireturn, 1) := by decide +kernel
theorem dX7_fullHolders_0 : decode cX7_fullHolders 0 = .ok (.iconst 0, 1) := by decide +kernel
theorem dX7_fullHolders_1 : decode cX7_fullHolders 1 = .ok (.istore_n 1, 1) := by decide +kernel
theorem dX7_fullHolders_2 : decode cX7_fullHolders 2 = .ok (.iconst 0, 1) := by decide +kernel
theorem dX7_fullHolders_3 : decode cX7_fullHolders 3 = .ok (.istore_n 2, 1) := by decide +kernel
theorem dX7_fullHolders_4 : decode cX7_fullHolders 4 = .ok (.iload_n 2, 1) := by decide +kernel
theorem dX7_fullHolders_5 : decode cX7_fullHolders 5 = .ok (.bipush 6, 2) := by decide +kernel
theorem dX7_fullHolders_7 : decode cX7_fullHolders 7 = .ok (.if_icmp .ge 24, 3) := by decide +kernel
theorem dX7_fullHolders_10 : decode cX7_fullHolders 10 = .ok (.aload_n 0, 1) := by decide +kernel
theorem dX7_fullHolders_11 : decode cX7_fullHolders 11 = .ok (.getfield 49, 3) := by decide +kernel
theorem dX7_fullHolders_14 : decode cX7_fullHolders 14 = .ok (.iload_n 2, 1) := by decide +kernel
theorem dX7_fullHolders_15 : decode cX7_fullHolders 15 = .ok (.aaload, 1) := by decide +kernel
theorem dX7_fullHolders_16 : decode cX7_fullHolders 16 = .ok (.getfield 271, 3) := by decide +kernel
theorem dX7_fullHolders_19 : decode cX7_fullHolders 19 = .ok (.ifCond .eq 6, 3) := by decide +kernel
theorem dX7_fullHolders_22 : decode cX7_fullHolders 22 = .ok (.iinc 1 1, 3) := by decide +kernel
theorem dX7_fullHolders_25 : decode cX7_fullHolders 25 = .ok (.iinc 2 1, 3) := by decide +kernel
theorem dX7_fullHolders_28 : decode cX7_fullHolders 28 = .ok (.goto (-24), 3) := by decide +kernel
theorem dX7_fullHolders_31 : decode cX7_fullHolders 31 = .ok (.iload_n 1, 1) := by decide +kernel
theorem dX7_fullHolders_32 : decode cX7_fullHolders 32 = .ok (.ireturn, 1) := by decide +kernel
theorem dX7_loanTells_0 : decode cX7_loanTells 0 = .ok (.aload_n 0, 1) := by decide +kernel
theorem dX7_loanTells_1 : decode cX7_loanTells 1 = .ok (.getfield 10, 3) := by decide +kernel
theorem dX7_loanTells_4 : decode cX7_loanTells 4 = .ok (.iload_n 1, 1) := by decide +kernel
theorem dX7_loanTells_5 : decode cX7_loanTells 5 = .ok (.invokevirtual 101, 3) := by decide +kernel
theorem dX7_loanTells_8 : decode cX7_loanTells 8 = .ok (.ifCond .ne 7, 3) := by decide +kernel
theorem dX7_loanTells_11 : decode cX7_loanTells 11 = .ok (.ldc2_w 327, 3) := by decide +kernel
theorem dX7_loanTells_14 : decode cX7_loanTells 14 = .ok (.lreturn, 1) := by decide +kernel
theorem dX7_loanTells_15 : decode cX7_loanTells 15 = .ok (.aload_n 0, 1) := by decide +kernel
theorem dX7_loanTells_16 : decode cX7_loanTells 16 = .ok (.getfield 10, 3) := by decide +kernel
theorem dX7_loanTells_19 : decode cX7_loanTells 19 = .ok (.getfield 108, 3) := by decide +kernel
theorem dX7_loanTells_22 : decode cX7_loanTells 22 = .ok (.iload_n 1, 1) := by decide +kernel
theorem dX7_loanTells_23 : decode cX7_loanTells 23 = .ok (.aaload, 1) := by decide +kernel
theorem dX7_loanTells_24 : decode cX7_loanTells 24 = .ok (.astore_n 3, 1) := by decide +kernel
theorem dX7_loanTells_25 : decode cX7_loanTells 25 = .ok (.iload_n 2, 1) := by decide +kernel
theorem dX7_loanTells_26 : decode cX7_loanTells 26 = .ok (.tableswitch 56 0 3 #[30, 33, 56, 38], 30) := by decide +kernel
theorem dX7_loanTells_56 : decode cX7_loanTells 56 = .ok (.iload_n 1, 1) := by decide +kernel
theorem dX7_loanTells_57 : decode cX7_loanTells 57 = .ok (.i2l, 1) := by decide +kernel
theorem dX7_loanTells_58 : decode cX7_loanTells 58 = .ok (.lreturn, 1) := by decide +kernel
theorem dX7_loanTells_59 : decode cX7_loanTells 59 = .ok (.aload_n 3, 1) := by decide +kernel
theorem dX7_loanTells_60 : decode cX7_loanTells 60 = .ok (.getfield 171, 3) := by decide +kernel
theorem dX7_loanTells_63 : decode cX7_loanTells 63 = .ok (.lreturn, 1) := by decide +kernel
theorem dX7_loanTells_64 : decode cX7_loanTells 64 = .ok (.aload_n 3, 1) := by decide +kernel
theorem dX7_loanTells_65 : decode cX7_loanTells 65 = .ok (.getfield 145, 3) := by decide +kernel
theorem dX7_loanTells_68 : decode cX7_loanTells 68 = .ok (.ifCond .ne 10, 3) := by decide +kernel
theorem dX7_loanTells_71 : decode cX7_loanTells 71 = .ok (.aload_n 3, 1) := by decide +kernel
theorem dX7_loanTells_72 : decode cX7_loanTells 72 = .ok (.getfield 122, 3) := by decide +kernel
theorem dX7_loanTells_75 : decode cX7_loanTells 75 = .ok (.goto 6, 3) := by decide +kernel
theorem dX7_loanTells_78 : decode cX7_loanTells 78 = .ok (.ldc2_w 325, 3) := by decide +kernel
theorem dX7_loanTells_81 : decode cX7_loanTells 81 = .ok (.lreturn, 1) := by decide +kernel
theorem dX7_loanTells_82 : decode cX7_loanTells 82 = .ok (.ldc2_w 325, 3) := by decide +kernel
theorem dX7_loanTells_85 : decode cX7_loanTells 85 = .ok (.lreturn, 1) := by decide +kernel
theorem dX7_billTells_0 : decode cX7_billTells 0 = .ok (.iload_n 1, 1) := by decide +kernel
theorem dX7_billTells_1 : decode cX7_billTells 1 = .ok (.lookupswitch 38 #[(0, 27), (2, 33)], 27) := by decide +kernel
theorem dX7_billTells_28 : decode cX7_billTells 28 = .ok (.aload_n 0, 1) := by decide +kernel
theorem dX7_billTells_29 : decode cX7_billTells 29 = .ok (.getfield 299, 3) := by decide +kernel
theorem dX7_billTells_32 : decode cX7_billTells 32 = .ok (.i2l, 1) := by decide +kernel
theorem dX7_billTells_33 : decode cX7_billTells 33 = .ok (.lreturn, 1) := by decide +kernel
theorem dX7_billTells_34 : decode cX7_billTells 34 = .ok (.aload_n 0, 1) := by decide +kernel
theorem dX7_billTells_35 : decode cX7_billTells 35 = .ok (.getfield 338, 3) := by decide +kernel
theorem dX7_billTells_38 : decode cX7_billTells 38 = .ok (.lreturn, 1) := by decide +kernel
theorem dX7_billTells_39 : decode cX7_billTells 39 = .ok (.ldc2_w 325, 3) := by decide +kernel
theorem dX7_billTells_42 : decode cX7_billTells 42 = .ok (.lreturn, 1) := by decide +kernel
theorem dX7_doLine_0 : decode cX7_doLine 0 = .ok (.aload_n 0, 1) := by decide +kernel
theorem dX7_doLine_1 : decode cX7_doLine 1 = .ok (.getfield 43, 3) := by decide +kernel
theorem dX7_doLine_4 : decode cX7_doLine 4 = .ok (.getfield 340, 3) := by decide +kernel
theorem dX7_doLine_7 : decode cX7_doLine 7 = .ok (.astore_n 1, 1) := by decide +kernel
theorem dX7_doLine_8 : decode cX7_doLine 8 = .ok (.aload_n 0, 1) := by decide +kernel
theorem dX7_doLine_9 : decode cX7_doLine 9 = .ok (.getfield 43, 3) := by decide +kernel
theorem dX7_doLine_12 : decode cX7_doLine 12 = .ok (.getfield 343, 3) := by decide +kernel
theorem dX7_doLine_15 : decode cX7_doLine 15 = .ok (.tableswitch 181 100 119 #[144, 181, 171, 161, 181, 181, 181, 181, 93, 181, 181, 181, 121, 181, 133, 181, 181, 181, 181, 153], 93) := by decide +kernel
theorem dX7_doLine_108 : decode cX7_doLine 108 = .ok (.aload_n 0, 1) := by decide +kernel
theorem dX7_doLine_109 : decode cX7_doLine 109 = .ok (.getfield 10, 3) := by decide +kernel
theorem dX7_doLine_112 : decode cX7_doLine 112 = .ok (.aload_n 1, 1) := by decide +kernel
theorem dX7_doLine_113 : decode cX7_doLine 113 = .ok (.iconst 0, 1) := by decide +kernel
theorem dX7_doLine_114 : decode cX7_doLine 114 = .ok (.iaload, 1) := by decide +kernel
theorem dX7_doLine_115 : decode cX7_doLine 115 = .ok (.i2l, 1) := by decide +kernel
theorem dX7_doLine_116 : decode cX7_doLine 116 = .ok (.aload_n 1, 1) := by decide +kernel
theorem dX7_doLine_117 : decode cX7_doLine 117 = .ok (.iconst 1, 1) := by decide +kernel
theorem dX7_doLine_118 : decode cX7_doLine 118 = .ok (.iaload, 1) := by decide +kernel
theorem dX7_doLine_119 : decode cX7_doLine 119 = .ok (.aload_n 1, 1) := by decide +kernel
theorem dX7_doLine_120 : decode cX7_doLine 120 = .ok (.iconst 2, 1) := by decide +kernel
theorem dX7_doLine_121 : decode cX7_doLine 121 = .ok (.iaload, 1) := by decide +kernel
theorem dX7_doLine_122 : decode cX7_doLine 122 = .ok (.aload_n 1, 1) := by decide +kernel
theorem dX7_doLine_123 : decode cX7_doLine 123 = .ok (.iconst 3, 1) := by decide +kernel
theorem dX7_doLine_124 : decode cX7_doLine 124 = .ok (.iaload, 1) := by decide +kernel
theorem dX7_doLine_125 : decode cX7_doLine 125 = .ok (.aload_n 1, 1) := by decide +kernel
theorem dX7_doLine_126 : decode cX7_doLine 126 = .ok (.iconst 5, 1) := by decide +kernel
theorem dX7_doLine_127 : decode cX7_doLine 127 = .ok (.iaload, 1) := by decide +kernel
theorem dX7_doLine_128 : decode cX7_doLine 128 = .ok (.aload_n 1, 1) := by decide +kernel
theorem dX7_doLine_129 : decode cX7_doLine 129 = .ok (.iconst 4, 1) := by decide +kernel
theorem dX7_doLine_130 : decode cX7_doLine 130 = .ok (.iaload, 1) := by decide +kernel
theorem dX7_doLine_131 : decode cX7_doLine 131 = .ok (.invokevirtual 89, 3) := by decide +kernel
theorem dX7_doLine_134 : decode cX7_doLine 134 = .ok (.i2l, 1) := by decide +kernel
theorem dX7_doLine_135 : decode cX7_doLine 135 = .ok (.lreturn, 1) := by decide +kernel
theorem dX7_doLine_136 : decode cX7_doLine 136 = .ok (.aload_n 0, 1) := by decide +kernel
theorem dX7_doLine_137 : decode cX7_doLine 137 = .ok (.aload_n 1, 1) := by decide +kernel
theorem dX7_doLine_138 : decode cX7_doLine 138 = .ok (.iconst 0, 1) := by decide +kernel
theorem dX7_doLine_139 : decode cX7_doLine 139 = .ok (.iaload, 1) := by decide +kernel
theorem dX7_doLine_140 : decode cX7_doLine 140 = .ok (.aload_n 1, 1) := by decide +kernel
theorem dX7_doLine_141 : decode cX7_doLine 141 = .ok (.iconst 1, 1) := by decide +kernel
theorem dX7_doLine_142 : decode cX7_doLine 142 = .ok (.iaload, 1) := by decide +kernel
theorem dX7_doLine_143 : decode cX7_doLine 143 = .ok (.i2l, 1) := by decide +kernel
theorem dX7_doLine_144 : decode cX7_doLine 144 = .ok (.invokevirtual 346, 3) := by decide +kernel
theorem dX7_doLine_147 : decode cX7_doLine 147 = .ok (.lreturn, 1) := by decide +kernel
theorem dX7_doLine_148 : decode cX7_doLine 148 = .ok (.aload_n 0, 1) := by decide +kernel
theorem dX7_doLine_149 : decode cX7_doLine 149 = .ok (.aload_n 1, 1) := by decide +kernel
theorem dX7_doLine_150 : decode cX7_doLine 150 = .ok (.iconst 0, 1) := by decide +kernel
theorem dX7_doLine_151 : decode cX7_doLine 151 = .ok (.iaload, 1) := by decide +kernel
theorem dX7_doLine_152 : decode cX7_doLine 152 = .ok (.aload_n 1, 1) := by decide +kernel
theorem dX7_doLine_153 : decode cX7_doLine 153 = .ok (.iconst 1, 1) := by decide +kernel
theorem dX7_doLine_154 : decode cX7_doLine 154 = .ok (.iaload, 1) := by decide +kernel
theorem dX7_doLine_155 : decode cX7_doLine 155 = .ok (.invokevirtual 350, 3) := by decide +kernel
theorem dX7_doLine_158 : decode cX7_doLine 158 = .ok (.lreturn, 1) := by decide +kernel
theorem dX7_doLine_159 : decode cX7_doLine 159 = .ok (.aload_n 0, 1) := by decide +kernel
theorem dX7_doLine_160 : decode cX7_doLine 160 = .ok (.aload_n 1, 1) := by decide +kernel
theorem dX7_doLine_161 : decode cX7_doLine 161 = .ok (.iconst 0, 1) := by decide +kernel
theorem dX7_doLine_162 : decode cX7_doLine 162 = .ok (.iaload, 1) := by decide +kernel
theorem dX7_doLine_163 : decode cX7_doLine 163 = .ok (.invokevirtual 353, 3) := by decide +kernel
theorem dX7_doLine_166 : decode cX7_doLine 166 = .ok (.i2l, 1) := by decide +kernel
theorem dX7_doLine_167 : decode cX7_doLine 167 = .ok (.lreturn, 1) := by decide +kernel
theorem dX7_doLine_168 : decode cX7_doLine 168 = .ok (.aload_n 0, 1) := by decide +kernel
theorem dX7_doLine_169 : decode cX7_doLine 169 = .ok (.aload_n 1, 1) := by decide +kernel
theorem dX7_doLine_170 : decode cX7_doLine 170 = .ok (.iconst 0, 1) := by decide +kernel
theorem dX7_doLine_171 : decode cX7_doLine 171 = .ok (.iaload, 1) := by decide +kernel
theorem dX7_doLine_172 : decode cX7_doLine 172 = .ok (.invokevirtual 356, 3) := by decide +kernel
theorem dX7_doLine_175 : decode cX7_doLine 175 = .ok (.lreturn, 1) := by decide +kernel
theorem dX7_doLine_176 : decode cX7_doLine 176 = .ok (.aload_n 0, 1) := by decide +kernel
theorem dX7_doLine_177 : decode cX7_doLine 177 = .ok (.iconst 0, 1) := by decide +kernel
theorem dX7_doLine_178 : decode cX7_doLine 178 = .ok (.aload_n 1, 1) := by decide +kernel
theorem dX7_doLine_179 : decode cX7_doLine 179 = .ok (.iconst 0, 1) := by decide +kernel
theorem dX7_doLine_180 : decode cX7_doLine 180 = .ok (.iaload, 1) := by decide +kernel
theorem dX7_doLine_181 : decode cX7_doLine 181 = .ok (.invokevirtual 359, 3) := by decide +kernel
theorem dX7_doLine_184 : decode cX7_doLine 184 = .ok (.i2l, 1) := by decide +kernel
theorem dX7_doLine_185 : decode cX7_doLine 185 = .ok (.lreturn, 1) := by decide +kernel
theorem dX7_doLine_186 : decode cX7_doLine 186 = .ok (.aload_n 0, 1) := by decide +kernel
theorem dX7_doLine_187 : decode cX7_doLine 187 = .ok (.iconst 1, 1) := by decide +kernel
theorem dX7_doLine_188 : decode cX7_doLine 188 = .ok (.aload_n 1, 1) := by decide +kernel
theorem dX7_doLine_189 : decode cX7_doLine 189 = .ok (.iconst 0, 1) := by decide +kernel
theorem dX7_doLine_190 : decode cX7_doLine 190 = .ok (.iaload, 1) := by decide +kernel
theorem dX7_doLine_191 : decode cX7_doLine 191 = .ok (.invokevirtual 359, 3) := by decide +kernel
theorem dX7_doLine_194 : decode cX7_doLine 194 = .ok (.i2l, 1) := by decide +kernel
theorem dX7_doLine_195 : decode cX7_doLine 195 = .ok (.lreturn, 1) := by decide +kernel
theorem dX7_doLine_196 : decode cX7_doLine 196 = .ok (.ldc2_w 79, 3) := by decide +kernel
theorem dX7_doLine_199 : decode cX7_doLine 199 = .ok (.lreturn, 1) := by decide +kernel
end
section
theorem dX8_init_0 : decode cX8_init 0 = .ok (.aload_n 0, 1) := by decide +kernel
theorem dX8_init_1 : decode cX8_init 1 = .ok (.invokespecial 3, 3) := by decide +kernel
theorem dX8_init_4 : decode cX8_init 4 = .ok (.aload_n 0, 1) := by decide +kernel
theorem dX8_init_5 : decode cX8_init 5 = .ok (.sipush 2524, 3) := by decide +kernel
theorem dX8_init_8 : decode cX8_init 8 = .ok (.newarray .long, 2) := by decide +kernel
theorem dX8_init_10 : decode cX8_init 10 = .ok (.putfield 9, 3) := by decide +kernel
theorem dX8_init_13 : decode cX8_init 13 = .ok (.aload_n 0, 1) := by decide +kernel
theorem dX8_init_14 : decode cX8_init 14 = .ok (.sipush 2524, 3) := by decide +kernel
theorem dX8_init_17 : decode cX8_init 17 = .ok (.newarray .long, 2) := by decide +kernel
theorem dX8_init_19 : decode cX8_init 19 = .ok (.putfield 13, 3) := by decide +kernel
theorem dX8_init_22 : decode cX8_init 22 = .ok (.aload_n 0, 1) := by decide +kernel
theorem dX8_init_23 : decode cX8_init 23 = .ok (.sipush 2524, 3) := by decide +kernel
theorem dX8_init_26 : decode cX8_init 26 = .ok (.newarray .long, 2) := by decide +kernel
theorem dX8_init_28 : decode cX8_init 28 = .ok (.putfield 16, 3) := by decide +kernel
theorem dX8_init_31 : decode cX8_init 31 = .ok (.aload_n 0, 1) := by decide +kernel
theorem dX8_init_32 : decode cX8_init 32 = .ok (.sipush 2524, 3) := by decide +kernel
theorem dX8_init_35 : decode cX8_init 35 = .ok (.newarray .long, 2) := by decide +kernel
theorem dX8_init_37 : decode cX8_init 37 = .ok (.putfield 19, 3) := by decide +kernel
theorem dX8_init_40 : decode cX8_init 40 = .ok (.aload_n 0, 1) := by decide +kernel
theorem dX8_init_41 : decode cX8_init 41 = .ok (.bipush 60, 2) := by decide +kernel
theorem dX8_init_43 : decode cX8_init 43 = .ok (.newarray .int, 2) := by decide +kernel
theorem dX8_init_45 : decode cX8_init 45 = .ok (.putfield 22, 3) := by decide +kernel
theorem dX8_init_48 : decode cX8_init 48 = .ok (.aload_n 0, 1) := by decide +kernel
theorem dX8_init_49 : decode cX8_init 49 = .ok (.bipush 60, 2) := by decide +kernel
theorem dX8_init_51 : decode cX8_init 51 = .ok (.newarray .long, 2) := by decide +kernel
theorem dX8_init_53 : decode cX8_init 53 = .ok (.putfield 26, 3) := by decide +kernel
theorem dX8_init_56 : decode cX8_init 56 = .ok (.aload_n 0, 1) := by decide +kernel
theorem dX8_init_57 : decode cX8_init 57 = .ok (.bipush 60, 2) := by decide +kernel
theorem dX8_init_59 : decode cX8_init 59 = .ok (.newarray .long, 2) := by decide +kernel
theorem dX8_init_61 : decode cX8_init 61 = .ok (.putfield 29, 3) := by decide +kernel
theorem dX8_init_64 : decode cX8_init 64 = .ok (.aload_n 0, 1) := by decide +kernel
theorem dX8_init_65 : decode cX8_init 65 = .ok (.bipush 60, 2) := by decide +kernel
theorem dX8_init_67 : decode cX8_init 67 = .ok (.newarray .long, 2) := by decide +kernel
theorem dX8_init_69 : decode cX8_init 69 = .ok (.putfield 32, 3) := by decide +kernel
theorem dX8_init_72 : decode cX8_init 72 = .ok (.aload_n 0, 1) := by decide +kernel
theorem dX8_init_73 : decode cX8_init 73 = .ok (.bipush 6, 2) := by decide +kernel
theorem dX8_init_75 : decode cX8_init 75 = .ok (.newarray .long, 2) := by decide +kernel
theorem dX8_init_77 : decode cX8_init 77 = .ok (.putfield 35, 3) := by decide +kernel
theorem dX8_init_80 : decode cX8_init 80 = .ok (.aload_n 0, 1) := by decide +kernel
theorem dX8_init_81 : decode cX8_init 81 = .ok (.bipush 120, 2) := by decide +kernel
theorem dX8_init_83 : decode cX8_init 83 = .ok (.newarray .int, 2) := by decide +kernel
theorem dX8_init_85 : decode cX8_init 85 = .ok (.putfield 38, 3) := by decide +kernel
theorem dX8_init_88 : decode cX8_init 88 = .ok (.aload_n 0, 1) := by decide +kernel
theorem dX8_init_89 : decode cX8_init 89 = .ok (.bipush 6, 2) := by decide +kernel
theorem dX8_init_91 : decode cX8_init 91 = .ok (.newarray .int, 2) := by decide +kernel
theorem dX8_init_93 : decode cX8_init 93 = .ok (.putfield 41, 3) := by decide +kernel
theorem dX8_init_96 : decode cX8_init 96 = .ok (.aload_n 0, 1) := by decide +kernel
theorem dX8_init_97 : decode cX8_init 97 = .ok (.bipush 6, 2) := by decide +kernel
theorem dX8_init_99 : decode cX8_init 99 = .ok (.newarray .int, 2) := by decide +kernel
theorem dX8_init_101 : decode cX8_init 101 = .ok (.putfield 44, 3) := by decide +kernel
theorem dX8_init_104 : decode cX8_init 104 = .ok (.aload_n 0, 1) := by decide +kernel
theorem dX8_init_105 : decode cX8_init 105 = .ok (.bipush 6, 2) := by decide +kernel
theorem dX8_init_107 : decode cX8_init 107 = .ok (.newarray .long, 2) := by decide +kernel
theorem dX8_init_109 : decode cX8_init 109 = .ok (.putfield 47, 3) := by decide +kernel
theorem dX8_init_112 : decode cX8_init 112 = .ok (.aload_n 0, 1) := by decide +kernel
theorem dX8_init_113 : decode cX8_init 113 = .ok (.bipush 6, 2) := by decide +kernel
theorem dX8_init_115 : decode cX8_init 115 = .ok (.newarray .long, 2) := by decide +kernel
theorem dX8_init_117 : decode cX8_init 117 = .ok (.putfield 50, 3) := by decide +kernel
theorem dX8_init_120 : decode cX8_init 120 = .ok (.aload_n 0, 1) := by decide +kernel
theorem dX8_init_121 : decode cX8_init 121 = .ok (.bipush 6, 2) := by decide +kernel
theorem dX8_init_123 : decode cX8_init 123 = .ok (.newarray .int, 2) := by decide +kernel
theorem dX8_init_125 : decode cX8_init 125 = .ok (.putfield 53, 3) := by decide +kernel
theorem dX8_init_128 : decode cX8_init 128 = .ok (.aload_n 0, 1) := by decide +kernel
theorem dX8_init_129 : decode cX8_init 129 = .ok (.bipush 6, 2) := by decide +kernel
theorem dX8_init_131 : decode cX8_init 131 = .ok (.bipush 60, 2) := by decide +kernel
theorem dX8_init_133 : decode cX8_init 133 = .ok (.multianewarray 56 2, 4) := by decide +kernel
theorem dX8_init_137 : decode cX8_init 137 = .ok (.putfield 58, 3) := by decide +kernel
theorem dX8_init_140 : decode cX8_init 140 = .ok (.aload_n 0, 1) := by decide +kernel
theorem dX8_init_141 : decode cX8_init 141 = .ok (.bipush 6, 2) := by decide +kernel
theorem dX8_init_143 : decode cX8_init 143 = .ok (.newarray .int, 2) := by decide +kernel
theorem dX8_init_145 : decode cX8_init 145 = .ok (.putfield 61, 3) := by decide +kernel
theorem dX8_init_148 : decode cX8_init 148 = .ok (.aload_n 0, 1) := by decide +kernel
theorem dX8_init_149 : decode cX8_init 149 = .ok (.getfield 9, 3) := by decide +kernel
theorem dX8_init_152 : decode cX8_init 152 = .ok (.sipush 2522, 3) := by decide +kernel
theorem dX8_init_155 : decode cX8_init 155 = .ok (.ldc2_w 64, 3) := by decide +kernel
theorem dX8_init_158 : decode cX8_init 158 = .ok (.lastore, 1) := by decide +kernel
theorem dX8_init_159 : decode cX8_init 159 = .ok (.aload_n 0, 1) := by decide +kernel
theorem dX8_init_160 : decode cX8_init 160 = .ok (.getfield 9, 3) := by decide +kernel
theorem dX8_init_163 : decode cX8_init 163 = .ok (.sipush 2523, 3) := by decide +kernel
theorem dX8_init_166 : decode cX8_init 166 = .ok (.ldc2_w 66, 3) := by decide +kernel
theorem dX8_init_169 : decode cX8_init 169 = .ok (.lastore, 1) := by decide +kernel
theorem dX8_init_170 : decode cX8_init 170 = .ok (.return_, 1) := by decide +kernel
theorem dX8_in_0 : decode cX8_in 0 = .ok (.lload_n 0, 1) := by decide +kernel
theorem dX8_in_1 : decode cX8_in 1 = .ok (.lload_n 2, 1) := by decide +kernel
theorem dX8_in_2 : decode cX8_in 2 = .ok (.lcmp, 1) := by decide +kernel
theorem dX8_in_3 : decode cX8_in 3 = .ok (.ifCond .lt 14, 3) := by decide +kernel
theorem dX8_in_6 : decode cX8_in 6 = .ok (.lload_n 0, 1) := by decide +kernel
theorem dX8_in_7 : decode cX8_in 7 = .ok (.lload 4, 2) := by decide +kernel
theorem dX8_in_9 : decode cX8_in 9 = .ok (.lcmp, 1) := by decide +kernel
theorem dX8_in_10 : decode cX8_in 10 = .ok (.ifCond .gt 7, 3) := by decide +kernel
theorem dX8_in_13 : decode cX8_in 13 = .ok (.iconst 1, 1) := by decide +kernel
theorem dX8_in_14 : decode cX8_in 14 = .ok (.goto 4, 3) := by decide +kernel
theorem dX8_in_17 : decode cX8_in 17 = .ok (.iconst 0, 1) := by decide +kernel
theorem dX8_in_18 : decode cX8_in 18 = .ok (.ireturn, 1) := by decide +kernel
theorem dX8_take_0 : decode cX8_take 0 = .ok (.iconst 0, 1) := by decide +kernel
theorem dX8_take_1 : decode cX8_take 1 = .ok (.istore_n 2, 1) := by decide +kernel
theorem dX8_take_2 : decode cX8_take 2 = .ok (.iload_n 2, 1) := by decide +kernel
theorem dX8_take_3 : decode cX8_take 3 = .ok (.sipush 2524, 3) := by decide +kernel
theorem dX8_take_6 : decode cX8_take 6 = .ok (.if_icmp .ge 15, 3) := by decide +kernel
theorem dX8_take_9 : decode cX8_take 9 = .ok (.aload_n 1, 1) := by decide +kernel
theorem dX8_take_10 : decode cX8_take 10 = .ok (.iload_n 2, 1) := by decide +kernel
theorem dX8_take_11 : decode cX8_take 11 = .ok (.aload_n 0, 1) := by decide +kernel
theorem dX8_take_12 : decode cX8_take 12 = .ok (.iload_n 2, 1) := by decide +kernel
theorem dX8_take_13 : decode cX8_take 13 = .ok (.laload, 1) := by decide +kernel
theorem dX8_take_14 : decode cX8_take 14 = .ok (.lastore, 1) := by decide +kernel
theorem dX8_take_15 : decode cX8_take 15 = .ok (.iinc 2 1, 3) := by decide +kernel
theorem dX8_take_18 : decode cX8_take 18 = .ok (.goto (-16), 3) := by decide +kernel
theorem dX8_take_21 : decode cX8_take 21 = .ok (.return_, 1) := by decide +kernel
theorem dX8_isLeap_0 : decode cX8_isLeap 0 = .ok (.iload_n 0, 1) := by decide +kernel
theorem dX8_isLeap_1 : decode cX8_isLeap 1 = .ok (.iconst 4, 1) := by decide +kernel
theorem dX8_isLeap_2 : decode cX8_isLeap 2 = .ok (.irem, 1) := by decide +kernel
theorem dX8_isLeap_3 : decode cX8_isLeap 3 = .ok (.ifCond .ne 7, 3) := by decide +kernel
theorem dX8_isLeap_6 : decode cX8_isLeap 6 = .ok (.iconst 1, 1) := by decide +kernel
theorem dX8_isLeap_7 : decode cX8_isLeap 7 = .ok (.goto 4, 3) := by decide +kernel
theorem dX8_isLeap_10 : decode cX8_isLeap 10 = .ok (.iconst 0, 1) := by decide +kernel
theorem dX8_isLeap_11 : decode cX8_isLeap 11 = .ok (.ireturn, 1) := by decide +kernel
theorem dX8_lastOf_0 : decode cX8_lastOf 0 = .ok (.iload_n 1, 1) := by decide +kernel
theorem dX8_lastOf_1 : decode cX8_lastOf 1 = .ok (.iconst 2, 1) := by decide +kernel
theorem dX8_lastOf_2 : decode cX8_lastOf 2 = .ok (.if_icmp .ne 20, 3) := by decide +kernel
theorem dX8_lastOf_5 : decode cX8_lastOf 5 = .ok (.iload_n 0, 1) := by decide +kernel
theorem dX8_lastOf_6 : decode cX8_lastOf 6 = .ok (.invokestatic 68, 3) := by decide +kernel
theorem dX8_lastOf_9 : decode cX8_lastOf 9 = .ok (.ifCond .eq 8, 3) := by decide +kernel
theorem dX8_lastOf_12 : decode cX8_lastOf 12 = .ok (.bipush 29, 2) := by decide +kernel
theorem dX8_lastOf_14 : decode cX8_lastOf 14 = .ok (.goto 38, 3) := by decide +kernel
theorem dX8_lastOf_17 : decode cX8_lastOf 17 = .ok (.bipush 28, 2) := by decide +kernel
theorem dX8_lastOf_19 : decode cX8_lastOf 19 = .ok (.goto 33, 3) := by decide +kernel
theorem dX8_lastOf_22 : decode cX8_lastOf 22 = .ok (.iload_n 1, 1) := by decide +kernel
theorem dX8_lastOf_23 : decode cX8_lastOf 23 = .ok (.iconst 4, 1) := by decide +kernel
theorem dX8_lastOf_24 : decode cX8_lastOf 24 = .ok (.if_icmp .eq 21, 3) := by decide +kernel
theorem dX8_lastOf_27 : decode cX8_lastOf 27 = .ok (.iload_n 1, 1) := by decide +kernel
theorem dX8_lastOf_28 : decode cX8_lastOf 28 = .ok (.bipush 6, 2) := by decide +kernel
theorem dX8_lastOf_30 : decode cX8_lastOf 30 = .ok (.if_icmp .eq 15, 3) := by decide +kernel
theorem dX8_lastOf_33 : decode cX8_lastOf 33 = .ok (.iload_n 1, 1) := by decide +kernel
theorem dX8_lastOf_34 : decode cX8_lastOf 34 = .ok (.bipush 9, 2) := by decide +kernel
theorem dX8_lastOf_36 : decode cX8_lastOf 36 = .ok (.if_icmp .eq 9, 3) := by decide +kernel
theorem dX8_lastOf_39 : decode cX8_lastOf 39 = .ok (.iload_n 1, 1) := by decide +kernel
theorem dX8_lastOf_40 : decode cX8_lastOf 40 = .ok (.bipush 11, 2) := by decide +kernel
theorem dX8_lastOf_42 : decode cX8_lastOf 42 = .ok (.if_icmp .ne 8, 3) := by decide +kernel
theorem dX8_lastOf_45 : decode cX8_lastOf 45 = .ok (.bipush 30, 2) := by decide +kernel
theorem dX8_lastOf_47 : decode cX8_lastOf 47 = .ok (.goto 5, 3) := by decide +kernel
theorem dX8_lastOf_50 : decode cX8_lastOf 50 = .ok (.bipush 31, 2) := by decide +kernel
theorem dX8_lastOf_52 : decode cX8_lastOf 52 = .ok (.ireturn, 1) := by decide +kernel
theorem dX8_yearOf_0 : decode cX8_yearOf 0 = .ok (.sipush 2000, 3) := by decide +kernel
theorem dX8_yearOf_3 : decode cX8_yearOf 3 = .ok (.iload_n 0, 1) := by decide +kernel
theorem dX8_yearOf_4 : decode cX8_yearOf 4 = .ok (.sipush 1461, 3) := by decide +kernel
theorem dX8_yearOf_7 : decode cX8_yearOf 7 = .ok (.idiv, 1) := by decide +kernel
theorem dX8_yearOf_8 : decode cX8_yearOf 8 = .ok (.iconst 4, 1) := by decide +kernel
theorem dX8_yearOf_9 : decode cX8_yearOf 9 = .ok (.imul, 1) := by decide +kernel
theorem dX8_yearOf_10 : decode cX8_yearOf 10 = .ok (.iadd, 1) := by decide +kernel
theorem dX8_yearOf_11 : decode cX8_yearOf 11 = .ok (.istore_n 1, 1) := by decide +kernel
theorem dX8_yearOf_12 : decode cX8_yearOf 12 = .ok (.iload_n 0, 1) := by decide +kernel
theorem dX8_yearOf_13 : decode cX8_yearOf 13 = .ok (.sipush 1461, 3) := by decide +kernel
theorem dX8_yearOf_16 : decode cX8_yearOf 16 = .ok (.irem, 1) := by decide +kernel
theorem dX8_yearOf_17 : decode cX8_yearOf 17 = .ok (.istore_n 2, 1) := by decide +kernel
theorem dX8_yearOf_18 : decode cX8_yearOf 18 = .ok (.iload_n 2, 1) := by decide +kernel
theorem dX8_yearOf_19 : decode cX8_yearOf 19 = .ok (.sipush 366, 3) := by decide +kernel
theorem dX8_yearOf_22 : decode cX8_yearOf 22 = .ok (.if_icmp .ge 7, 3) := by decide +kernel
theorem dX8_yearOf_25 : decode cX8_yearOf 25 = .ok (.iload_n 1, 1) := by decide +kernel
theorem dX8_yearOf_26 : decode cX8_yearOf 26 = .ok (.goto 16, 3) := by decide +kernel
theorem dX8_yearOf_29 : decode cX8_yearOf 29 = .ok (.iload_n 1, 1) := by decide +kernel
theorem dX8_yearOf_30 : decode cX8_yearOf 30 = .ok (.iconst 1, 1) := by decide +kernel
theorem dX8_yearOf_31 : decode cX8_yearOf 31 = .ok (.iadd, 1) := by decide +kernel
theorem dX8_yearOf_32 : decode cX8_yearOf 32 = .ok (.iload_n 2, 1) := by decide +kernel
theorem dX8_yearOf_33 : decode cX8_yearOf 33 = .ok (.sipush 366, 3) := by decide +kernel
theorem dX8_yearOf_36 : decode cX8_yearOf 36 = .ok (.isub, 1) := by decide +kernel
theorem dX8_yearOf_37 : decode cX8_yearOf 37 = .ok (.sipush 365, 3) := by decide +kernel
theorem dX8_yearOf_40 : decode cX8_yearOf 40 = .ok (.idiv, 1) := by decide +kernel
theorem dX8_yearOf_41 : decode cX8_yearOf 41 = .ok (.iadd, 1) := by decide +kernel
theorem dX8_yearOf_42 : decode cX8_yearOf 42 = .ok (.ireturn, 1) := by decide +kernel
theorem dX8_yearStart_0 : decode cX8_yearStart 0 = .ok (.iload_n 0, 1) := by decide +kernel
theorem dX8_yearStart_1 : decode cX8_yearStart 1 = .ok (.sipush 2000, 3) := by decide +kernel
theorem dX8_yearStart_4 : decode cX8_yearStart 4 = .ok (.isub, 1) := by decide +kernel
theorem dX8_yearStart_5 : decode cX8_yearStart 5 = .ok (.istore_n 1, 1) := by decide +kernel
theorem dX8_yearStart_6 : decode cX8_yearStart 6 = .ok (.sipush 365, 3) := by decide +kernel
theorem dX8_yearStart_9 : decode cX8_yearStart 9 = .ok (.iload_n 1, 1) := by decide +kernel
theorem dX8_yearStart_10 : decode cX8_yearStart 10 = .ok (.imul, 1) := by decide +kernel
theorem dX8_yearStart_11 : decode cX8_yearStart 11 = .ok (.iload_n 1, 1) := by decide +kernel
theorem dX8_yearStart_12 : decode cX8_yearStart 12 = .ok (.iconst 3, 1) := by decide +kernel
theorem dX8_yearStart_13 : decode cX8_yearStart 13 = .ok (.iadd, 1) := by decide +kernel
theorem dX8_yearStart_14 : decode cX8_yearStart 14 = .ok (.iconst 4, 1) := by decide +kernel
theorem dX8_yearStart_15 : decode cX8_yearStart 15 = .ok (.idiv, 1) := by decide +kernel
theorem dX8_yearStart_16 : decode cX8_yearStart 16 = .ok (.iadd, 1) := by decide +kernel
theorem dX8_yearStart_17 : decode cX8_yearStart 17 = .ok (.ireturn, 1) := by decide +kernel
theorem dX8_monthAndDay_0 : decode cX8_monthAndDay 0 = .ok (.iload_n 0, 1) := by decide +kernel
theorem dX8_monthAndDay_1 : decode cX8_monthAndDay 1 = .ok (.invokestatic 72, 3) := by decide +kernel
theorem dX8_monthAndDay_4 : decode cX8_monthAndDay 4 = .ok (.istore_n 1, 1) := by decide +kernel
theorem dX8_monthAndDay_5 : decode cX8_monthAndDay 5 = .ok (.iload_n 0, 1) := by decide +kernel
theorem dX8_monthAndDay_6 : decode cX8_monthAndDay 6 = .ok (.iload_n 1, 1) := by decide +kernel
theorem dX8_monthAndDay_7 : decode cX8_monthAndDay 7 = .ok (.invokestatic 76, 3) := by decide +kernel
theorem dX8_monthAndDay_10 : decode cX8_monthAndDay 10 = .ok (.isub, 1) := by decide +kernel
theorem dX8_monthAndDay_11 : decode cX8_monthAndDay 11 = .ok (.istore_n 2, 1) := by decide +kernel
theorem dX8_monthAndDay_12 : decode cX8_monthAndDay 12 = .ok (.iconst 1, 1) := by decide +kernel
theorem dX8_monthAndDay_13 : decode cX8_monthAndDay 13 = .ok (.istore_n 3, 1) := by decide +kernel
theorem dX8_monthAndDay_14 : decode cX8_monthAndDay 14 = .ok (.iload_n 2, 1) := by decide +kernel
theorem dX8_monthAndDay_15 : decode cX8_monthAndDay 15 = .ok (.iload_n 1, 1) := by decide +kernel
theorem dX8_monthAndDay_16 : decode cX8_monthAndDay 16 = .ok (.iload_n 3, 1) := by decide +kernel
theorem dX8_monthAndDay_17 : decode cX8_monthAndDay 17 = .ok (.invokestatic 79, 3) := by decide +kernel
theorem dX8_monthAndDay_20 : decode cX8_monthAndDay 20 = .ok (.if_icmp .lt 17, 3) := by decide +kernel
theorem dX8_monthAndDay_23 : decode cX8_monthAndDay 23 = .ok (.iload_n 2, 1) := by decide +kernel
theorem dX8_monthAndDay_24 : decode cX8_monthAndDay 24 = .ok (.iload_n 1, 1) := by decide +kernel
theorem dX8_monthAndDay_25 : decode cX8_monthAndDay 25 = .ok (.iload_n 3, 1) := by decide +kernel
theorem dX8_monthAndDay_26 : decode cX8_monthAndDay 26 = .ok (.invokestatic 79, 3) := by decide +kernel
theorem dX8_monthAndDay_29 : decode cX8_monthAndDay 29 = .ok (.isub, 1) := by decide +kernel
theorem dX8_monthAndDay_30 : decode cX8_monthAndDay 30 = .ok (.istore_n 2, 1) := by decide +kernel
theorem dX8_monthAndDay_31 : decode cX8_monthAndDay 31 = .ok (.iinc 3 1, 3) := by decide +kernel
theorem dX8_monthAndDay_34 : decode cX8_monthAndDay 34 = .ok (.goto (-20), 3) := by decide +kernel
theorem dX8_monthAndDay_37 : decode cX8_monthAndDay 37 = .ok (.bipush 100, 2) := by decide +kernel
theorem dX8_monthAndDay_39 : decode cX8_monthAndDay 39 = .ok (.iload_n 3, 1) := by decide +kernel
theorem dX8_monthAndDay_40 : decode cX8_monthAndDay 40 = .ok (.imul, 1) := by decide +kernel
theorem dX8_monthAndDay_41 : decode cX8_monthAndDay 41 = .ok (.iload_n 2, 1) := by decide +kernel
theorem dX8_monthAndDay_42 : decode cX8_monthAndDay 42 = .ok (.iadd, 1) := by decide +kernel
theorem dX8_monthAndDay_43 : decode cX8_monthAndDay 43 = .ok (.iconst 1, 1) := by decide +kernel
theorem dX8_monthAndDay_44 : decode cX8_monthAndDay 44 = .ok (.iadd, 1) := by decide +kernel
theorem dX8_monthAndDay_45 : decode cX8_monthAndDay 45 = .ok (.ireturn, 1) := by decide +kernel
theorem dX8_toDay_0 : decode cX8_toDay 0 = .ok (.iload_n 0, 1) := by decide +kernel
theorem dX8_toDay_1 : decode cX8_toDay 1 = .ok (.invokestatic 76, 3) := by decide +kernel
theorem dX8_toDay_4 : decode cX8_toDay 4 = .ok (.iload_n 2, 1) := by decide +kernel
theorem dX8_toDay_5 : decode cX8_toDay 5 = .ok (.iadd, 1) := by decide +kernel
theorem dX8_toDay_6 : decode cX8_toDay 6 = .ok (.iconst 1, 1) := by decide +kernel
theorem dX8_toDay_7 : decode cX8_toDay 7 = .ok (.isub, 1) := by decide +kernel
theorem dX8_toDay_8 : decode cX8_toDay 8 = .ok (.istore_n 3, 1) := by decide +kernel
theorem dX8_toDay_9 : decode cX8_toDay 9 = .ok (.iconst 1, 1) := by decide +kernel
theorem dX8_toDay_10 : decode cX8_toDay 10 = .ok (.istore 4, 2) := by decide +kernel
theorem dX8_toDay_12 : decode cX8_toDay 12 = .ok (.iload 4, 2) := by decide +kernel
theorem dX8_toDay_14 : decode cX8_toDay 14 = .ok (.iload_n 1, 1) := by decide +kernel
theorem dX8_toDay_15 : decode cX8_toDay 15 = .ok (.if_icmp .ge 18, 3) := by decide +kernel
theorem dX8_toDay_18 : decode cX8_toDay 18 = .ok (.iload_n 3, 1) := by decide +kernel
theorem dX8_toDay_19 : decode cX8_toDay 19 = .ok (.iload_n 0, 1) := by decide +kernel
theorem dX8_toDay_20 : decode cX8_toDay 20 = .ok (.iload 4, 2) := by decide +kernel
theorem dX8_toDay_22 : decode cX8_toDay 22 = .ok (.invokestatic 79, 3) := by decide +kernel
theorem dX8_toDay_25 : decode cX8_toDay 25 = .ok (.iadd, 1) := by decide +kernel
theorem dX8_toDay_26 : decode cX8_toDay 26 = .ok (.istore_n 3, 1) := by decide +kernel
theorem dX8_toDay_27 : decode cX8_toDay 27 = .ok (.iinc 4 1, 3) := by decide +kernel
theorem dX8_toDay_30 : decode cX8_toDay 30 = .ok (.goto (-18), 3) := by decide +kernel
theorem dX8_toDay_33 : decode cX8_toDay 33 = .ok (.iload_n 3, 1) := by decide +kernel
theorem dX8_toDay_34 : decode cX8_toDay 34 = .ok (.ireturn, 1) := by decide +kernel
theorem dX8_isDay_0 : decode cX8_isDay 0 = .ok (.iload_n 0, 1) := by decide +kernel
theorem dX8_isDay_1 : decode cX8_isDay 1 = .ok (.i2l, 1) := by decide +kernel
theorem dX8_isDay_2 : decode cX8_isDay 2 = .ok (.lconst 0, 1) := by decide +kernel
theorem dX8_isDay_3 : decode cX8_isDay 3 = .ok (.ldc2_w 83, 3) := by decide +kernel
theorem dX8_isDay_6 : decode cX8_isDay 6 = .ok (.invokestatic 85, 3) := by decide +kernel
theorem dX8_isDay_9 : decode cX8_isDay 9 = .ok (.ireturn, 1) := by decide +kernel
theorem dX8_date_0 : decode cX8_date 0 = .ok (.iload_n 1, 1) := by decide +kernel
theorem dX8_date_1 : decode cX8_date 1 = .ok (.invokestatic 89, 3) := by decide +kernel
theorem dX8_date_4 : decode cX8_date 4 = .ok (.ifCond .eq 15, 3) := by decide +kernel
theorem dX8_date_7 : decode cX8_date 7 = .ok (.iload_n 2, 1) := by decide +kernel
theorem dX8_date_8 : decode cX8_date 8 = .ok (.i2l, 1) := by decide +kernel
theorem dX8_date_9 : decode cX8_date 9 = .ok (.lconst 0, 1) := by decide +kernel
theorem dX8_date_10 : decode cX8_date 10 = .ok (.ldc2_w 92, 3) := by decide +kernel
theorem dX8_date_13 : decode cX8_date 13 = .ok (.invokestatic 85, 3) := by decide +kernel
theorem dX8_date_16 : decode cX8_date 16 = .ok (.ifCond .ne 5, 3) := by decide +kernel
theorem dX8_date_19 : decode cX8_date 19 = .ok (.iconst (-1), 1) := by decide +kernel
theorem dX8_date_20 : decode cX8_date 20 = .ok (.ireturn, 1) := by decide +kernel
theorem dX8_date_21 : decode cX8_date 21 = .ok (.iload_n 1, 1) := by decide +kernel
theorem dX8_date_22 : decode cX8_date 22 = .ok (.invokestatic 72, 3) := by decide +kernel
theorem dX8_date_25 : decode cX8_date 25 = .ok (.istore_n 3, 1) := by decide +kernel
theorem dX8_date_26 : decode cX8_date 26 = .ok (.iload_n 1, 1) := by decide +kernel
theorem dX8_date_27 : decode cX8_date 27 = .ok (.invokestatic 94, 3) := by decide +kernel
theorem dX8_date_30 : decode cX8_date 30 = .ok (.istore 4, 2) := by decide +kernel
theorem dX8_date_32 : decode cX8_date 32 = .ok (.iload_n 2, 1) := by decide +kernel
theorem dX8_date_33 : decode cX8_date 33 = .ok (.ifCond .ne 7, 3) := by decide +kernel
theorem dX8_date_36 : decode cX8_date 36 = .ok (.iload_n 3, 1) := by decide +kernel
theorem dX8_date_37 : decode cX8_date 37 = .ok (.goto 41, 3) := by decide +kernel
theorem dX8_date_40 : decode cX8_date 40 = .ok (.iload_n 2, 1) := by decide +kernel
theorem dX8_date_41 : decode cX8_date 41 = .ok (.iconst 1, 1) := by decide +kernel
theorem dX8_date_42 : decode cX8_date 42 = .ok (.if_icmp .ne 11, 3) := by decide +kernel
theorem dX8_date_45 : decode cX8_date 45 = .ok (.iload 4, 2) := by decide +kernel
theorem dX8_date_47 : decode cX8_date 47 = .ok (.bipush 100, 2) := by decide +kernel
theorem dX8_date_49 : decode cX8_date 49 = .ok (.idiv, 1) := by decide +kernel
theorem dX8_date_50 : decode cX8_date 50 = .ok (.goto 28, 3) := by decide +kernel
theorem dX8_date_53 : decode cX8_date 53 = .ok (.iload_n 2, 1) := by decide +kernel
theorem dX8_date_54 : decode cX8_date 54 = .ok (.iconst 2, 1) := by decide +kernel
theorem dX8_date_55 : decode cX8_date 55 = .ok (.if_icmp .ne 11, 3) := by decide +kernel
theorem dX8_date_58 : decode cX8_date 58 = .ok (.iload 4, 2) := by decide +kernel
theorem dX8_date_60 : decode cX8_date 60 = .ok (.bipush 100, 2) := by decide +kernel
theorem dX8_date_62 : decode cX8_date 62 = .ok (.irem, 1) := by decide +kernel
theorem dX8_date_63 : decode cX8_date 63 = .ok (.goto 15, 3) := by decide +kernel
theorem dX8_date_66 : decode cX8_date 66 = .ok (.iload_n 3, 1) := by decide +kernel
theorem dX8_date_67 : decode cX8_date 67 = .ok (.invokestatic 68, 3) := by decide +kernel
theorem dX8_date_70 : decode cX8_date 70 = .ok (.ifCond .eq 7, 3) := by decide +kernel
theorem dX8_date_73 : decode cX8_date 73 = .ok (.iconst 1, 1) := by decide +kernel
theorem dX8_date_74 : decode cX8_date 74 = .ok (.goto 4, 3) := by decide +kernel
theorem dX8_date_77 : decode cX8_date 77 = .ok (.iconst 0, 1) := by decide +kernel
theorem dX8_date_78 : decode cX8_date 78 = .ok (.ireturn, 1) := by decide +kernel
theorem dX8_dayOf_0 : decode cX8_dayOf 0 = .ok (.iload_n 1, 1) := by decide +kernel
theorem dX8_dayOf_1 : decode cX8_dayOf 1 = .ok (.i2l, 1) := by decide +kernel
theorem dX8_dayOf_2 : decode cX8_dayOf 2 = .ok (.ldc2_w 97, 3) := by decide +kernel
theorem dX8_dayOf_5 : decode cX8_dayOf 5 = .ok (.ldc2_w 99, 3) := by decide +kernel
theorem dX8_dayOf_8 : decode cX8_dayOf 8 = .ok (.invokestatic 85, 3) := by decide +kernel
theorem dX8_dayOf_11 : decode cX8_dayOf 11 = .ok (.ifCond .eq 33, 3) := by decide +kernel
theorem dX8_dayOf_14 : decode cX8_dayOf 14 = .ok (.iload_n 2, 1) := by decide +kernel
theorem dX8_dayOf_15 : decode cX8_dayOf 15 = .ok (.i2l, 1) := by decide +kernel
theorem dX8_dayOf_16 : decode cX8_dayOf 16 = .ok (.lconst 1, 1) := by decide +kernel
theorem dX8_dayOf_17 : decode cX8_dayOf 17 = .ok (.ldc2_w 101, 3) := by decide +kernel
theorem dX8_dayOf_20 : decode cX8_dayOf 20 = .ok (.invokestatic 85, 3) := by decide +kernel
theorem dX8_dayOf_23 : decode cX8_dayOf 23 = .ok (.ifCond .eq 21, 3) := by decide +kernel
theorem dX8_dayOf_26 : decode cX8_dayOf 26 = .ok (.iload_n 3, 1) := by decide +kernel
theorem dX8_dayOf_27 : decode cX8_dayOf 27 = .ok (.iconst 1, 1) := by decide +kernel
theorem dX8_dayOf_28 : decode cX8_dayOf 28 = .ok (.if_icmp .lt 16, 3) := by decide +kernel
theorem dX8_dayOf_31 : decode cX8_dayOf 31 = .ok (.iload_n 3, 1) := by decide +kernel
theorem dX8_dayOf_32 : decode cX8_dayOf 32 = .ok (.iload_n 1, 1) := by decide +kernel
theorem dX8_dayOf_33 : decode cX8_dayOf 33 = .ok (.iload_n 2, 1) := by decide +kernel
theorem dX8_dayOf_34 : decode cX8_dayOf 34 = .ok (.invokestatic 79, 3) := by decide +kernel
theorem dX8_dayOf_37 : decode cX8_dayOf 37 = .ok (.if_icmp .gt 7, 3) := by decide +kernel
theorem dX8_dayOf_40 : decode cX8_dayOf 40 = .ok (.iconst 1, 1) := by decide +kernel
theorem dX8_dayOf_41 : decode cX8_dayOf 41 = .ok (.goto 4, 3) := by decide +kernel
theorem dX8_dayOf_44 : decode cX8_dayOf 44 = .ok (.iconst 0, 1) := by decide +kernel
theorem dX8_dayOf_45 : decode cX8_dayOf 45 = .ok (.istore 4, 2) := by decide +kernel
theorem dX8_dayOf_47 : decode cX8_dayOf 47 = .ok (.iload 4, 2) := by decide +kernel
theorem dX8_dayOf_49 : decode cX8_dayOf 49 = .ok (.ifCond .eq 12, 3) := by decide +kernel
theorem dX8_dayOf_52 : decode cX8_dayOf 52 = .ok (.iload_n 1, 1) := by decide +kernel
theorem dX8_dayOf_53 : decode cX8_dayOf 53 = .ok (.iload_n 2, 1) := by decide +kernel
theorem dX8_dayOf_54 : decode cX8_dayOf 54 = .ok (.iload_n 3, 1) := by decide +kernel
theorem dX8_dayOf_55 : decode cX8_dayOf 55 = .ok (.invokestatic 103, 3) := by decide +kernel
theorem dX8_dayOf_58 : decode cX8_dayOf 58 = .ok (.goto 4, 3) := by decide +kernel
theorem dX8_dayOf_61 : decode cX8_dayOf 61 = .ok (.iconst (-1), 1) := by decide +kernel
theorem dX8_dayOf_62 : decode cX8_dayOf 62 = .ok (.ireturn, 1) := by decide +kernel
theorem dX8_monthsBehind_0 : decode cX8_monthsBehind 0 = .ok (.iload_n 0, 1) := by decide +kernel
theorem dX8_monthsBehind_1 : decode cX8_monthsBehind 1 = .ok (.invokestatic 94, 3) := by decide +kernel
theorem dX8_monthsBehind_4 : decode cX8_monthsBehind 4 = .ok (.istore_n 2, 1) := by decide +kernel
theorem dX8_monthsBehind_5 : decode cX8_monthsBehind 5 = .ok (.bipush 12, 2) := by decide +kernel
theorem dX8_monthsBehind_7 : decode cX8_monthsBehind 7 = .ok (.iload_n 0, 1) := by decide +kernel
theorem dX8_monthsBehind_8 : decode cX8_monthsBehind 8 = .ok (.invokestatic 72, 3) := by decide +kernel
theorem dX8_monthsBehind_11 : decode cX8_monthsBehind 11 = .ok (.imul, 1) := by decide +kernel
theorem dX8_monthsBehind_12 : decode cX8_monthsBehind 12 = .ok (.iload_n 2, 1) := by decide +kernel
theorem dX8_monthsBehind_13 : decode cX8_monthsBehind 13 = .ok (.bipush 100, 2) := by decide +kernel
theorem dX8_monthsBehind_15 : decode cX8_monthsBehind 15 = .ok (.idiv, 1) := by decide +kernel
theorem dX8_monthsBehind_16 : decode cX8_monthsBehind 16 = .ok (.iadd, 1) := by decide +kernel
theorem dX8_monthsBehind_17 : decode cX8_monthsBehind 17 = .ok (.iconst 1, 1) := by decide +kernel
theorem dX8_monthsBehind_18 : decode cX8_monthsBehind 18 = .ok (.isub, 1) := by decide +kernel
theorem dX8_monthsBehind_19 : decode cX8_monthsBehind 19 = .ok (.iload_n 1, 1) := by decide +kernel
theorem dX8_monthsBehind_20 : decode cX8_monthsBehind 20 = .ok (.iadd, 1) := by decide +kernel
theorem dX8_monthsBehind_21 : decode cX8_monthsBehind 21 = .ok (.istore_n 3, 1) := by decide +kernel
theorem dX8_monthsBehind_22 : decode cX8_monthsBehind 22 = .ok (.iload_n 3, 1) := by decide +kernel
theorem dX8_monthsBehind_23 : decode cX8_monthsBehind 23 = .ok (.bipush 12, 2) := by decide +kernel
theorem dX8_monthsBehind_25 : decode cX8_monthsBehind 25 = .ok (.idiv, 1) := by decide +kernel
theorem dX8_monthsBehind_26 : decode cX8_monthsBehind 26 = .ok (.istore 4, 2) := by decide +kernel
theorem dX8_monthsBehind_28 : decode cX8_monthsBehind 28 = .ok (.iload_n 3, 1) := by decide +kernel
theorem dX8_monthsBehind_29 : decode cX8_monthsBehind 29 = .ok (.bipush 12, 2) := by decide +kernel
theorem dX8_monthsBehind_31 : decode cX8_monthsBehind 31 = .ok (.irem, 1) := by decide +kernel
theorem dX8_monthsBehind_32 : decode cX8_monthsBehind 32 = .ok (.iconst 1, 1) := by decide +kernel
theorem dX8_monthsBehind_33 : decode cX8_monthsBehind 33 = .ok (.iadd, 1) := by decide +kernel
theorem dX8_monthsBehind_34 : decode cX8_monthsBehind 34 = .ok (.istore 5, 2) := by decide +kernel
theorem dX8_monthsBehind_36 : decode cX8_monthsBehind 36 = .ok (.iload 4, 2) := by decide +kernel
theorem dX8_monthsBehind_38 : decode cX8_monthsBehind 38 = .ok (.sipush 2099, 3) := by decide +kernel
theorem dX8_monthsBehind_41 : decode cX8_monthsBehind 41 = .ok (.if_icmp .le 6, 3) := by decide +kernel
theorem dX8_monthsBehind_44 : decode cX8_monthsBehind 44 = .ok (.ldc 107, 2) := by decide +kernel
theorem dX8_monthsBehind_46 : decode cX8_monthsBehind 46 = .ok (.ireturn, 1) := by decide +kernel
theorem dX8_monthsBehind_47 : decode cX8_monthsBehind 47 = .ok (.iload 4, 2) := by decide +kernel
theorem dX8_monthsBehind_49 : decode cX8_monthsBehind 49 = .ok (.iload 5, 2) := by decide +kernel
theorem dX8_monthsBehind_51 : decode cX8_monthsBehind 51 = .ok (.invokestatic 79, 3) := by decide +kernel
theorem dX8_monthsBehind_54 : decode cX8_monthsBehind 54 = .ok (.istore 6, 2) := by decide +kernel
theorem dX8_monthsBehind_56 : decode cX8_monthsBehind 56 = .ok (.iload_n 2, 1) := by decide +kernel
theorem dX8_monthsBehind_57 : decode cX8_monthsBehind 57 = .ok (.bipush 100, 2) := by decide +kernel
theorem dX8_monthsBehind_59 : decode cX8_monthsBehind 59 = .ok (.irem, 1) := by decide +kernel
theorem dX8_monthsBehind_60 : decode cX8_monthsBehind 60 = .ok (.istore 7, 2) := by decide +kernel
theorem dX8_monthsBehind_62 : decode cX8_monthsBehind 62 = .ok (.iload 4, 2) := by decide +kernel
theorem dX8_monthsBehind_64 : decode cX8_monthsBehind 64 = .ok (.iload 5, 2) := by decide +kernel
theorem dX8_monthsBehind_66 : decode cX8_monthsBehind 66 = .ok (.iload 7, 2) := by decide +kernel
theorem dX8_monthsBehind_68 : decode cX8_monthsBehind 68 = .ok (.iload 6, 2) := by decide +kernel
theorem dX8_monthsBehind_70 : decode cX8_monthsBehind 70 = .ok (.if_icmp .ge 8, 3) := by decide +kernel
theorem dX8_monthsBehind_73 : decode cX8_monthsBehind 73 = .ok (.iload 7, 2) := by decide +kernel
theorem dX8_monthsBehind_75 : decode cX8_monthsBehind 75 = .ok (.goto 5, 3) := by decide +kernel
theorem dX8_monthsBehind_78 : decode cX8_monthsBehind 78 = .ok (.iload 6, 2) := by decide +kernel
theorem dX8_monthsBehind_80 : decode cX8_monthsBehind 80 = .ok (.invokestatic 103, 3) := by decide +kernel
theorem dX8_monthsBehind_83 : decode cX8_monthsBehind 83 = .ok (.ireturn, 1) := by decide +kernel
theorem dX8_leapDays_0 : decode cX8_leapDays 0 = .ok (.iconst 0, 1) := by decide +kernel
theorem dX8_leapDays_1 : decode cX8_leapDays 1 = .ok (.istore_n 2, 1) := by decide +kernel
theorem dX8_leapDays_2 : decode cX8_leapDays 2 = .ok (.sipush 2000, 3) := by decide +kernel
theorem dX8_leapDays_5 : decode cX8_leapDays 5 = .ok (.istore_n 3, 1) := by decide +kernel
theorem dX8_leapDays_6 : decode cX8_leapDays 6 = .ok (.iload_n 3, 1) := by decide +kernel
theorem dX8_leapDays_7 : decode cX8_leapDays 7 = .ok (.sipush 2096, 3) := by decide +kernel
theorem dX8_leapDays_10 : decode cX8_leapDays 10 = .ok (.if_icmp .gt 70, 3) := by decide +kernel
theorem dX8_leapDays_13 : decode cX8_leapDays 13 = .ok (.iload_n 3, 1) := by decide +kernel
theorem dX8_leapDays_14 : decode cX8_leapDays 14 = .ok (.invokestatic 76, 3) := by decide +kernel
theorem dX8_leapDays_17 : decode cX8_leapDays 17 = .ok (.istore 4, 2) := by decide +kernel
theorem dX8_leapDays_19 : decode cX8_leapDays 19 = .ok (.iload 4, 2) := by decide +kernel
theorem dX8_leapDays_21 : decode cX8_leapDays 21 = .ok (.sipush 366, 3) := by decide +kernel
theorem dX8_leapDays_24 : decode cX8_leapDays 24 = .ok (.iadd, 1) := by decide +kernel
theorem dX8_leapDays_25 : decode cX8_leapDays 25 = .ok (.istore 5, 2) := by decide +kernel
theorem dX8_leapDays_27 : decode cX8_leapDays 27 = .ok (.iload 4, 2) := by decide +kernel
theorem dX8_leapDays_29 : decode cX8_leapDays 29 = .ok (.iload_n 0, 1) := by decide +kernel
theorem dX8_leapDays_30 : decode cX8_leapDays 30 = .ok (.if_icmp .le 8, 3) := by decide +kernel
theorem dX8_leapDays_33 : decode cX8_leapDays 33 = .ok (.iload 4, 2) := by decide +kernel
theorem dX8_leapDays_35 : decode cX8_leapDays 35 = .ok (.goto 4, 3) := by decide +kernel
theorem dX8_leapDays_38 : decode cX8_leapDays 38 = .ok (.iload_n 0, 1) := by decide +kernel
theorem dX8_leapDays_39 : decode cX8_leapDays 39 = .ok (.istore 6, 2) := by decide +kernel
theorem dX8_leapDays_41 : decode cX8_leapDays 41 = .ok (.iload 5, 2) := by decide +kernel
theorem dX8_leapDays_43 : decode cX8_leapDays 43 = .ok (.iload_n 1, 1) := by decide +kernel
theorem dX8_leapDays_44 : decode cX8_leapDays 44 = .ok (.if_icmp .ge 8, 3) := by decide +kernel
theorem dX8_leapDays_47 : decode cX8_leapDays 47 = .ok (.iload 5, 2) := by decide +kernel
theorem dX8_leapDays_49 : decode cX8_leapDays 49 = .ok (.goto 4, 3) := by decide +kernel
theorem dX8_leapDays_52 : decode cX8_leapDays 52 = .ok (.iload_n 1, 1) := by decide +kernel
theorem dX8_leapDays_53 : decode cX8_leapDays 53 = .ok (.istore 7, 2) := by decide +kernel
theorem dX8_leapDays_55 : decode cX8_leapDays 55 = .ok (.iload_n 2, 1) := by decide +kernel
theorem dX8_leapDays_56 : decode cX8_leapDays 56 = .ok (.iload 7, 2) := by decide +kernel
theorem dX8_leapDays_58 : decode cX8_leapDays 58 = .ok (.iload 6, 2) := by decide +kernel
theorem dX8_leapDays_60 : decode cX8_leapDays 60 = .ok (.if_icmp .le 11, 3) := by decide +kernel
theorem dX8_leapDays_63 : decode cX8_leapDays 63 = .ok (.iload 7, 2) := by decide +kernel
theorem dX8_leapDays_65 : decode cX8_leapDays 65 = .ok (.iload 6, 2) := by decide +kernel
theorem dX8_leapDays_67 : decode cX8_leapDays 67 = .ok (.isub, 1) := by decide +kernel
theorem dX8_leapDays_68 : decode cX8_leapDays 68 = .ok (.goto 4, 3) := by decide +kernel
theorem dX8_leapDays_71 : decode cX8_leapDays 71 = .ok (.iconst 0, 1) := by decide +kernel
theorem dX8_leapDays_72 : decode cX8_leapDays 72 = .ok (.iadd, 1) := by decide +kernel
theorem dX8_leapDays_73 : decode cX8_leapDays 73 = .ok (.istore_n 2, 1) := by decide +kernel
theorem dX8_leapDays_74 : decode cX8_leapDays 74 = .ok (.iinc 3 4, 3) := by decide +kernel
theorem dX8_leapDays_77 : decode cX8_leapDays 77 = .ok (.goto (-71), 3) := by decide +kernel
theorem dX8_leapDays_80 : decode cX8_leapDays 80 = .ok (.iload_n 2, 1) := by decide +kernel
theorem dX8_leapDays_81 : decode cX8_leapDays 81 = .ok (.ireturn, 1) := by decide +kernel
theorem dX8_thirties_0 : decode cX8_thirties 0 = .ok (.iload_n 0, 1) := by decide +kernel
theorem dX8_thirties_1 : decode cX8_thirties 1 = .ok (.invokestatic 94, 3) := by decide +kernel
theorem dX8_thirties_4 : decode cX8_thirties 4 = .ok (.istore_n 2, 1) := by decide +kernel
theorem dX8_thirties_5 : decode cX8_thirties 5 = .ok (.iload_n 1, 1) := by decide +kernel
theorem dX8_thirties_6 : decode cX8_thirties 6 = .ok (.invokestatic 94, 3) := by decide +kernel
theorem dX8_thirties_9 : decode cX8_thirties 9 = .ok (.istore_n 3, 1) := by decide +kernel
theorem dX8_thirties_10 : decode cX8_thirties 10 = .ok (.iload_n 2, 1) := by decide +kernel
theorem dX8_thirties_11 : decode cX8_thirties 11 = .ok (.bipush 100, 2) := by decide +kernel
theorem dX8_thirties_13 : decode cX8_thirties 13 = .ok (.irem, 1) := by decide +kernel
theorem dX8_thirties_14 : decode cX8_thirties 14 = .ok (.bipush 30, 2) := by decide +kernel
theorem dX8_thirties_16 : decode cX8_thirties 16 = .ok (.if_icmp .le 8, 3) := by decide +kernel
theorem dX8_thirties_19 : decode cX8_thirties 19 = .ok (.bipush 30, 2) := by decide +kernel
theorem dX8_thirties_21 : decode cX8_thirties 21 = .ok (.goto 7, 3) := by decide +kernel
theorem dX8_thirties_24 : decode cX8_thirties 24 = .ok (.iload_n 2, 1) := by decide +kernel
theorem dX8_thirties_25 : decode cX8_thirties 25 = .ok (.bipush 100, 2) := by decide +kernel
theorem dX8_thirties_27 : decode cX8_thirties 27 = .ok (.irem, 1) := by decide +kernel
theorem dX8_thirties_28 : decode cX8_thirties 28 = .ok (.istore 4, 2) := by decide +kernel
theorem dX8_thirties_30 : decode cX8_thirties 30 = .ok (.iload_n 3, 1) := by decide +kernel
theorem dX8_thirties_31 : decode cX8_thirties 31 = .ok (.bipush 100, 2) := by decide +kernel
theorem dX8_thirties_33 : decode cX8_thirties 33 = .ok (.irem, 1) := by decide +kernel
theorem dX8_thirties_34 : decode cX8_thirties 34 = .ok (.bipush 30, 2) := by decide +kernel
theorem dX8_thirties_36 : decode cX8_thirties 36 = .ok (.if_icmp .le 8, 3) := by decide +kernel
theorem dX8_thirties_39 : decode cX8_thirties 39 = .ok (.bipush 30, 2) := by decide +kernel
theorem dX8_thirties_41 : decode cX8_thirties 41 = .ok (.goto 7, 3) := by decide +kernel
theorem dX8_thirties_44 : decode cX8_thirties 44 = .ok (.iload_n 3, 1) := by decide +kernel
theorem dX8_thirties_45 : decode cX8_thirties 45 = .ok (.bipush 100, 2) := by decide +kernel
theorem dX8_thirties_47 : decode cX8_thirties 47 = .ok (.irem, 1) := by decide +kernel
theorem dX8_thirties_48 : decode cX8_thirties 48 = .ok (.istore 5, 2) := by decide +kernel
theorem dX8_thirties_50 : decode cX8_thirties 50 = .ok (.sipush 360, 3) := by decide +kernel
theorem dX8_thirties_53 : decode cX8_thirties 53 = .ok (.iload_n 1, 1) := by decide +kernel
theorem dX8_thirties_54 : decode cX8_thirties 54 = .ok (.invokestatic 72, 3) := by decide +kernel
theorem dX8_thirties_57 : decode cX8_thirties 57 = .ok (.iload_n 0, 1) := by decide +kernel
theorem dX8_thirties_58 : decode cX8_thirties 58 = .ok (.invokestatic 72, 3) := by decide +kernel
theorem dX8_thirties_61 : decode cX8_thirties 61 = .ok (.isub, 1) := by decide +kernel
theorem dX8_thirties_62 : decode cX8_thirties 62 = .ok (.imul, 1) := by decide +kernel
theorem dX8_thirties_63 : decode cX8_thirties 63 = .ok (.bipush 30, 2) := by decide +kernel
theorem dX8_thirties_65 : decode cX8_thirties 65 = .ok (.iload_n 3, 1) := by decide +kernel
theorem dX8_thirties_66 : decode cX8_thirties 66 = .ok (.bipush 100, 2) := by decide +kernel
theorem dX8_thirties_68 : decode cX8_thirties 68 = .ok (.idiv, 1) := by decide +kernel
theorem dX8_thirties_69 : decode cX8_thirties 69 = .ok (.iload_n 2, 1) := by decide +kernel
theorem dX8_thirties_70 : decode cX8_thirties 70 = .ok (.bipush 100, 2) := by decide +kernel
theorem dX8_thirties_72 : decode cX8_thirties 72 = .ok (.idiv, 1) := by decide +kernel
theorem dX8_thirties_73 : decode cX8_thirties 73 = .ok (.isub, 1) := by decide +kernel
theorem dX8_thirties_74 : decode cX8_thirties 74 = .ok (.imul, 1) := by decide +kernel
theorem dX8_thirties_75 : decode cX8_thirties 75 = .ok (.iadd, 1) := by decide +kernel
theorem dX8_thirties_76 : decode cX8_thirties 76 = .ok (.iload 5, 2) := by decide +kernel
theorem dX8_thirties_78 : decode cX8_thirties 78 = .ok (.iadd, 1) := by decide +kernel
theorem dX8_thirties_79 : decode cX8_thirties 79 = .ok (.iload 4, 2) := by decide +kernel
theorem dX8_thirties_81 : decode cX8_thirties 81 = .ok (.isub, 1) := by decide +kernel
theorem dX8_thirties_82 : decode cX8_thirties 82 = .ok (.ireturn, 1) := by decide +kernel
theorem dX8_interestOf_0 : decode cX8_interestOf 0 = .ok (.iload 4, 2) := by decide +kernel
theorem dX8_interestOf_2 : decode cX8_interestOf 2 = .ok (.ifCond .ne 14, 3) := by decide +kernel
theorem dX8_interestOf_5 : decode cX8_interestOf 5 = .ok (.iload 5, 2) := by decide +kernel
theorem dX8_interestOf_7 : decode cX8_interestOf 7 = .ok (.iload 6, 2) := by decide +kernel
theorem dX8_interestOf_9 : decode cX8_interestOf 9 = .ok (.invokestatic 108, 3) := by decide +kernel
theorem dX8_interestOf_12 : decode cX8_interestOf 12 = .ok (.i2l, 1) := by decide +kernel
theorem dX8_interestOf_13 : decode cX8_interestOf 13 = .ok (.goto 9, 3) := by decide +kernel
theorem dX8_interestOf_16 : decode cX8_interestOf 16 = .ok (.iload 6, 2) := by decide +kernel
theorem dX8_interestOf_18 : decode cX8_interestOf 18 = .ok (.iload 5, 2) := by decide +kernel
theorem dX8_interestOf_20 : decode cX8_interestOf 20 = .ok (.isub, 1) := by decide +kernel
theorem dX8_interestOf_21 : decode cX8_interestOf 21 = .ok (.i2l, 1) := by decide +kernel
theorem dX8_interestOf_22 : decode cX8_interestOf 22 = .ok (.lstore 7, 2) := by decide +kernel
theorem dX8_interestOf_24 : decode cX8_interestOf 24 = .ok (.iload 4, 2) := by decide +kernel
theorem dX8_interestOf_26 : decode cX8_interestOf 26 = .ok (.iconst 2, 1) := by decide +kernel
theorem dX8_interestOf_27 : decode cX8_interestOf 27 = .ok (.if_icmp .ne 9, 3) := by decide +kernel
theorem dX8_interestOf_30 : decode cX8_interestOf 30 = .ok (.ldc2_w 111, 3) := by decide +kernel
theorem dX8_interestOf_33 : decode cX8_interestOf 33 = .ok (.goto 6, 3) := by decide +kernel
theorem dX8_interestOf_36 : decode cX8_interestOf 36 = .ok (.ldc2_w 113, 3) := by decide +kernel
theorem dX8_interestOf_39 : decode cX8_interestOf 39 = .ok (.lstore 9, 2) := by decide +kernel
theorem dX8_interestOf_41 : decode cX8_interestOf 41 = .ok (.iload 4, 2) := by decide +kernel
theorem dX8_interestOf_43 : decode cX8_interestOf 43 = .ok (.iconst 3, 1) := by decide +kernel
theorem dX8_interestOf_44 : decode cX8_interestOf 44 = .ok (.if_icmp .ne 40, 3) := by decide +kernel
theorem dX8_interestOf_47 : decode cX8_interestOf 47 = .ok (.iload 5, 2) := by decide +kernel
theorem dX8_interestOf_49 : decode cX8_interestOf 49 = .ok (.iload 6, 2) := by decide +kernel
theorem dX8_interestOf_51 : decode cX8_interestOf 51 = .ok (.invokestatic 115, 3) := by decide +kernel
theorem dX8_interestOf_54 : decode cX8_interestOf 54 = .ok (.i2l, 1) := by decide +kernel
theorem dX8_interestOf_55 : decode cX8_interestOf 55 = .ok (.lstore 11, 2) := by decide +kernel
theorem dX8_interestOf_57 : decode cX8_interestOf 57 = .ok (.lload 11, 2) := by decide +kernel
theorem dX8_interestOf_59 : decode cX8_interestOf 59 = .ok (.ldc2_w 111, 3) := by decide +kernel
theorem dX8_interestOf_62 : decode cX8_interestOf 62 = .ok (.lmul, 1) := by decide +kernel
theorem dX8_interestOf_63 : decode cX8_interestOf 63 = .ok (.iload 6, 2) := by decide +kernel
theorem dX8_interestOf_65 : decode cX8_interestOf 65 = .ok (.iload 5, 2) := by decide +kernel
theorem dX8_interestOf_67 : decode cX8_interestOf 67 = .ok (.isub, 1) := by decide +kernel
theorem dX8_interestOf_68 : decode cX8_interestOf 68 = .ok (.i2l, 1) := by decide +kernel
theorem dX8_interestOf_69 : decode cX8_interestOf 69 = .ok (.lload 11, 2) := by decide +kernel
theorem dX8_interestOf_71 : decode cX8_interestOf 71 = .ok (.lsub, 1) := by decide +kernel
theorem dX8_interestOf_72 : decode cX8_interestOf 72 = .ok (.ldc2_w 118, 3) := by decide +kernel
theorem dX8_interestOf_75 : decode cX8_interestOf 75 = .ok (.lmul, 1) := by decide +kernel
theorem dX8_interestOf_76 : decode cX8_interestOf 76 = .ok (.ladd, 1) := by decide +kernel
theorem dX8_interestOf_77 : decode cX8_interestOf 77 = .ok (.lstore 7, 2) := by decide +kernel
theorem dX8_interestOf_79 : decode cX8_interestOf 79 = .ok (.ldc2_w 120, 3) := by decide +kernel
theorem dX8_interestOf_82 : decode cX8_interestOf 82 = .ok (.lstore 9, 2) := by decide +kernel
theorem dX8_interestOf_84 : decode cX8_interestOf 84 = .ok (.lload_n 0, 1) := by decide +kernel
theorem dX8_interestOf_85 : decode cX8_interestOf 85 = .ok (.lload_n 2, 1) := by decide +kernel
theorem dX8_interestOf_86 : decode cX8_interestOf 86 = .ok (.lmul, 1) := by decide +kernel
theorem dX8_interestOf_87 : decode cX8_interestOf 87 = .ok (.lload 7, 2) := by decide +kernel
theorem dX8_interestOf_89 : decode cX8_interestOf 89 = .ok (.lmul, 1) := by decide +kernel
theorem dX8_interestOf_90 : decode cX8_interestOf 90 = .ok (.lstore 11, 2) := by decide +kernel
theorem dX8_interestOf_92 : decode cX8_interestOf 92 = .ok (.lload 9, 2) := by decide +kernel
theorem dX8_interestOf_94 : decode cX8_interestOf 94 = .ok (.ldc2_w 122, 3) := by decide +kernel
theorem dX8_interestOf_97 : decode cX8_interestOf 97 = .ok (.lmul, 1) := by decide +kernel
theorem dX8_interestOf_98 : decode cX8_interestOf 98 = .ok (.lstore 13, 2) := by decide +kernel
theorem dX8_interestOf_100 : decode cX8_interestOf 100 = .ok (.lload 11, 2) := by decide +kernel
theorem dX8_interestOf_102 : decode cX8_interestOf 102 = .ok (.lload 13, 2) := by decide +kernel
theorem dX8_interestOf_104 : decode cX8_interestOf 104 = .ok (.ldiv, 1) := by decide +kernel
theorem dX8_interestOf_105 : decode cX8_interestOf 105 = .ok (.lload 11, 2) := by decide +kernel
theorem dX8_interestOf_107 : decode cX8_interestOf 107 = .ok (.lload 13, 2) := by decide +kernel
theorem dX8_interestOf_109 : decode cX8_interestOf 109 = .ok (.lrem, 1) := by decide +kernel
theorem dX8_interestOf_110 : decode cX8_interestOf 110 = .ok (.ldc2_w 124, 3) := by decide +kernel
theorem dX8_interestOf_113 : decode cX8_interestOf 113 = .ok (.lmul, 1) := by decide +kernel
theorem dX8_interestOf_114 : decode cX8_interestOf 114 = .ok (.lload 13, 2) := by decide +kernel
theorem dX8_interestOf_116 : decode cX8_interestOf 116 = .ok (.lcmp, 1) := by decide +kernel
theorem dX8_interestOf_117 : decode cX8_interestOf 117 = .ok (.ifCond .lt 7, 3) := by decide +kernel
theorem dX8_interestOf_120 : decode cX8_interestOf 120 = .ok (.iconst 1, 1) := by decide +kernel
theorem dX8_interestOf_121 : decode cX8_interestOf 121 = .ok (.goto 4, 3) := by decide +kernel
theorem dX8_interestOf_124 : decode cX8_interestOf 124 = .ok (.iconst 0, 1) := by decide +kernel
theorem dX8_interestOf_125 : decode cX8_interestOf 125 = .ok (.i2l, 1) := by decide +kernel
theorem dX8_interestOf_126 : decode cX8_interestOf 126 = .ok (.ladd, 1) := by decide +kernel
theorem dX8_interestOf_127 : decode cX8_interestOf 127 = .ok (.lreturn, 1) := by decide +kernel
theorem dX8_interest_0 : decode cX8_interest 0 = .ok (.lload_n 1, 1) := by decide +kernel
theorem dX8_interest_1 : decode cX8_interest 1 = .ok (.lconst 0, 1) := by decide +kernel
theorem dX8_interest_2 : decode cX8_interest 2 = .ok (.ldc2_w 126, 3) := by decide +kernel
theorem dX8_interest_5 : decode cX8_interest 5 = .ok (.invokestatic 85, 3) := by decide +kernel
theorem dX8_interest_8 : decode cX8_interest 8 = .ok (.ifCond .eq 55, 3) := by decide +kernel
theorem dX8_interest_11 : decode cX8_interest 11 = .ok (.iload_n 3, 1) := by decide +kernel
theorem dX8_interest_12 : decode cX8_interest 12 = .ok (.i2l, 1) := by decide +kernel
theorem dX8_interest_13 : decode cX8_interest 13 = .ok (.lconst 0, 1) := by decide +kernel
theorem dX8_interest_14 : decode cX8_interest 14 = .ok (.ldc2_w 128, 3) := by decide +kernel
theorem dX8_interest_17 : decode cX8_interest 17 = .ok (.invokestatic 85, 3) := by decide +kernel
theorem dX8_interest_20 : decode cX8_interest 20 = .ok (.ifCond .eq 43, 3) := by decide +kernel
theorem dX8_interest_23 : decode cX8_interest 23 = .ok (.iload 4, 2) := by decide +kernel
theorem dX8_interest_25 : decode cX8_interest 25 = .ok (.i2l, 1) := by decide +kernel
theorem dX8_interest_26 : decode cX8_interest 26 = .ok (.lconst 0, 1) := by decide +kernel
theorem dX8_interest_27 : decode cX8_interest 27 = .ok (.ldc2_w 92, 3) := by decide +kernel
theorem dX8_interest_30 : decode cX8_interest 30 = .ok (.invokestatic 85, 3) := by decide +kernel
theorem dX8_interest_33 : decode cX8_interest 33 = .ok (.ifCond .eq 30, 3) := by decide +kernel
theorem dX8_interest_36 : decode cX8_interest 36 = .ok (.iload 5, 2) := by decide +kernel
theorem dX8_interest_38 : decode cX8_interest 38 = .ok (.invokestatic 89, 3) := by decide +kernel
theorem dX8_interest_41 : decode cX8_interest 41 = .ok (.ifCond .eq 22, 3) := by decide +kernel
theorem dX8_interest_44 : decode cX8_interest 44 = .ok (.iload 6, 2) := by decide +kernel
theorem dX8_interest_46 : decode cX8_interest 46 = .ok (.invokestatic 89, 3) := by decide +kernel
theorem dX8_interest_49 : decode cX8_interest 49 = .ok (.ifCond .eq 14, 3) := by decide +kernel
theorem dX8_interest_52 : decode cX8_interest 52 = .ok (.iload 6, 2) := by decide +kernel
theorem dX8_interest_54 : decode cX8_interest 54 = .ok (.iload 5, 2) := by decide +kernel
theorem dX8_interest_56 : decode cX8_interest 56 = .ok (.if_icmp .lt 7, 3) := by decide +kernel
theorem dX8_interest_59 : decode cX8_interest 59 = .ok (.iconst 1, 1) := by decide +kernel
theorem dX8_interest_60 : decode cX8_interest 60 = .ok (.goto 4, 3) := by decide +kernel
theorem dX8_interest_63 : decode cX8_interest 63 = .ok (.iconst 0, 1) := by decide +kernel
theorem dX8_interest_64 : decode cX8_interest 64 = .ok (.istore 7, 2) := by decide +kernel
theorem dX8_interest_66 : decode cX8_interest 66 = .ok (.iload 7, 2) := by decide +kernel
theorem dX8_interest_68 : decode cX8_interest 68 = .ok (.ifCond .eq 18, 3) := by decide +kernel
theorem dX8_interest_71 : decode cX8_interest 71 = .ok (.lload_n 1, 1) := by decide +kernel
theorem dX8_interest_72 : decode cX8_interest 72 = .ok (.iload_n 3, 1) := by decide +kernel
theorem dX8_interest_73 : decode cX8_interest 73 = .ok (.i2l, 1) := by decide +kernel
theorem dX8_interest_74 : decode cX8_interest 74 = .ok (.iload 4, 2) := by decide +kernel
theorem dX8_interest_76 : decode cX8_interest 76 = .ok (.iload 5, 2) := by decide +kernel
theorem dX8_interest_78 : decode cX8_interest 78 = .ok (.iload 6, 2) := by decide +kernel
theorem dX8_interest_80 : decode cX8_interest 80 = .ok (.invokestatic 130, 3) := by decide +kernel
theorem dX8_interest_83 : decode cX8_interest 83 = .ok (.goto 6, 3) := by decide +kernel
theorem dX8_interest_86 : decode cX8_interest 86 = .ok (.ldc2_w 134, 3) := by decide +kernel
theorem dX8_interest_89 : decode cX8_interest 89 = .ok (.lreturn, 1) := by decide +kernel
theorem dX8_isLoan_0 : decode cX8_isLoan 0 = .ok (.iload_n 1, 1) := by decide +kernel
theorem dX8_isLoan_1 : decode cX8_isLoan 1 = .ok (.i2l, 1) := by decide +kernel
theorem dX8_isLoan_2 : decode cX8_isLoan 2 = .ok (.lconst 0, 1) := by decide +kernel
theorem dX8_isLoan_3 : decode cX8_isLoan 3 = .ok (.aload_n 0, 1) := by decide +kernel
theorem dX8_isLoan_4 : decode cX8_isLoan 4 = .ok (.getfield 9, 3) := by decide +kernel
theorem dX8_isLoan_7 : decode cX8_isLoan 7 = .ok (.sipush 2520, 3) := by decide +kernel
theorem dX8_isLoan_10 : decode cX8_isLoan 10 = .ok (.laload, 1) := by decide +kernel
theorem dX8_isLoan_11 : decode cX8_isLoan 11 = .ok (.lconst 1, 1) := by decide +kernel
theorem dX8_isLoan_12 : decode cX8_isLoan 12 = .ok (.lsub, 1) := by decide +kernel
theorem dX8_isLoan_13 : decode cX8_isLoan 13 = .ok (.invokestatic 85, 3) := by decide +kernel
theorem dX8_isLoan_16 : decode cX8_isLoan 16 = .ok (.ireturn, 1) := by decide +kernel
theorem dX8_at_0 : decode cX8_at 0 = .ok (.aload_n 0, 1) := by decide +kernel
theorem dX8_at_1 : decode cX8_at 1 = .ok (.getfield 9, 3) := by decide +kernel
theorem dX8_at_4 : decode cX8_at 4 = .ok (.iload_n 1, 1) := by decide +kernel
theorem dX8_at_5 : decode cX8_at 5 = .ok (.sipush 315, 3) := by decide +kernel
theorem dX8_at_8 : decode cX8_at 8 = .ok (.imul, 1) := by decide +kernel
theorem dX8_at_9 : decode cX8_at 9 = .ok (.iload_n 2, 1) := by decide +kernel
theorem dX8_at_10 : decode cX8_at 10 = .ok (.iadd, 1) := by decide +kernel
theorem dX8_at_11 : decode cX8_at 11 = .ok (.laload, 1) := by decide +kernel
theorem dX8_at_12 : decode cX8_at 12 = .ok (.lreturn, 1) := by decide +kernel
theorem dX8_sets_0 : decode cX8_sets 0 = .ok (.aload_n 0, 1) := by decide +kernel
theorem dX8_sets_1 : decode cX8_sets 1 = .ok (.getfield 9, 3) := by decide +kernel
theorem dX8_sets_4 : decode cX8_sets 4 = .ok (.iload_n 1, 1) := by decide +kernel
theorem dX8_sets_5 : decode cX8_sets 5 = .ok (.sipush 315, 3) := by decide +kernel
theorem dX8_sets_8 : decode cX8_sets 8 = .ok (.imul, 1) := by decide +kernel
theorem dX8_sets_9 : decode cX8_sets 9 = .ok (.iload_n 2, 1) := by decide +kernel
theorem dX8_sets_10 : decode cX8_sets 10 = .ok (.iadd, 1) := by decide +kernel
theorem dX8_sets_11 : decode cX8_sets 11 = .ok (.lload_n 3, 1) := by decide +kernel
theorem dX8_sets_12 : decode cX8_sets 12 = .ok (.lastore, 1) := by decide +kernel
theorem dX8_sets_13 : decode cX8_sets 13 = .ok (.return_, 1) := by decide +kernel
theorem dX8_endOf_0 : decode cX8_endOf 0 = .ok (.iload_n 2, 1) := by decide +kernel
theorem dX8_endOf_1 : decode cX8_endOf 1 = .ok (.ifCond .ne 14, 3) := by decide +kernel
theorem dX8_endOf_4 : decode cX8_endOf 4 = .ok (.aload_n 0, 1) := by decide +kernel
theorem dX8_endOf_5 : decode cX8_endOf 5 = .ok (.iload_n 1, 1) := by decide +kernel
theorem dX8_endOf_6 : decode cX8_endOf 6 = .ok (.bipush 6, 2) := by decide +kernel
theorem dX8_endOf_8 : decode cX8_endOf 8 = .ok (.invokevirtual 136, 3) := by decide +kernel
theorem dX8_endOf_11 : decode cX8_endOf 11 = .ok (.l2i, 1) := by decide +kernel
theorem dX8_endOf_12 : decode cX8_endOf 12 = .ok (.goto 15, 3) := by decide +kernel
theorem dX8_endOf_15 : decode cX8_endOf 15 = .ok (.aload_n 0, 1) := by decide +kernel
theorem dX8_endOf_16 : decode cX8_endOf 16 = .ok (.iload_n 1, 1) := by decide +kernel
theorem dX8_endOf_17 : decode cX8_endOf 17 = .ok (.bipush 6, 2) := by decide +kernel
theorem dX8_endOf_19 : decode cX8_endOf 19 = .ok (.invokevirtual 136, 3) := by decide +kernel
theorem dX8_endOf_22 : decode cX8_endOf 22 = .ok (.l2i, 1) := by decide +kernel
theorem dX8_endOf_23 : decode cX8_endOf 23 = .ok (.iload_n 2, 1) := by decide +kernel
theorem dX8_endOf_24 : decode cX8_endOf 24 = .ok (.invokestatic 140, 3) := by decide +kernel
theorem dX8_endOf_27 : decode cX8_endOf 27 = .ok (.ireturn, 1) := by decide +kernel
theorem dX8_periodInterest_0 : decode cX8_periodInterest 0 = .ok (.lload_n 2, 1) := by decide +kernel
theorem dX8_periodInterest_1 : decode cX8_periodInterest 1 = .ok (.aload_n 0, 1) := by decide +kernel
theorem dX8_periodInterest_2 : decode cX8_periodInterest 2 = .ok (.iload_n 1, 1) := by decide +kernel
theorem dX8_periodInterest_3 : decode cX8_periodInterest 3 = .ok (.iconst 1, 1) := by decide +kernel
theorem dX8_periodInterest_4 : decode cX8_periodInterest 4 = .ok (.invokevirtual 136, 3) := by decide +kernel
theorem dX8_periodInterest_7 : decode cX8_periodInterest 7 = .ok (.aload_n 0, 1) := by decide +kernel
theorem dX8_periodInterest_8 : decode cX8_periodInterest 8 = .ok (.iload_n 1, 1) := by decide +kernel
theorem dX8_periodInterest_9 : decode cX8_periodInterest 9 = .ok (.iconst 2, 1) := by decide +kernel
theorem dX8_periodInterest_10 : decode cX8_periodInterest 10 = .ok (.invokevirtual 136, 3) := by decide +kernel
theorem dX8_periodInterest_13 : decode cX8_periodInterest 13 = .ok (.l2i, 1) := by decide +kernel
theorem dX8_periodInterest_14 : decode cX8_periodInterest 14 = .ok (.aload_n 0, 1) := by decide +kernel
theorem dX8_periodInterest_15 : decode cX8_periodInterest 15 = .ok (.iload_n 1, 1) := by decide +kernel
theorem dX8_periodInterest_16 : decode cX8_periodInterest 16 = .ok (.iload 4, 2) := by decide +kernel
theorem dX8_periodInterest_18 : decode cX8_periodInterest 18 = .ok (.invokevirtual 143, 3) := by decide +kernel
theorem dX8_periodInterest_21 : decode cX8_periodInterest 21 = .ok (.aload_n 0, 1) := by decide +kernel
theorem dX8_periodInterest_22 : decode cX8_periodInterest 22 = .ok (.iload_n 1, 1) := by decide +kernel
theorem dX8_periodInterest_23 : decode cX8_periodInterest 23 = .ok (.iload 4, 2) := by decide +kernel
theorem dX8_periodInterest_25 : decode cX8_periodInterest 25 = .ok (.iconst 1, 1) := by decide +kernel
theorem dX8_periodInterest_26 : decode cX8_periodInterest 26 = .ok (.iadd, 1) := by decide +kernel
theorem dX8_periodInterest_27 : decode cX8_periodInterest 27 = .ok (.invokevirtual 143, 3) := by decide +kernel
theorem dX8_periodInterest_30 : decode cX8_periodInterest 30 = .ok (.invokestatic 130, 3) := by decide +kernel
theorem dX8_periodInterest_33 : decode cX8_periodInterest 33 = .ok (.lreturn, 1) := by decide +kernel
theorem dX8_cut_0 : decode cX8_cut 0 = .ok (.lload_n 0, 1) := by decide +kernel
theorem dX8_cut_1 : decode cX8_cut 1 = .ok (.lload_n 2, 1) := by decide +kernel
theorem dX8_cut_2 : decode cX8_cut 2 = .ok (.lcmp, 1) := by decide +kernel
theorem dX8_cut_3 : decode cX8_cut 3 = .ok (.ifCond .ge 7, 3) := by decide +kernel
theorem dX8_cut_6 : decode cX8_cut 6 = .ok (.lload_n 2, 1) := by decide +kernel
theorem dX8_cut_7 : decode cX8_cut 7 = .ok (.goto 16, 3) := by decide +kernel
theorem dX8_cut_10 : decode cX8_cut 10 = .ok (.lload_n 0, 1) := by decide +kernel
theorem dX8_cut_11 : decode cX8_cut 11 = .ok (.lload 4, 2) := by decide +kernel
theorem dX8_cut_13 : decode cX8_cut 13 = .ok (.lcmp, 1) := by decide +kernel
theorem dX8_cut_14 : decode cX8_cut 14 = .ok (.ifCond .le 8, 3) := by decide +kernel
theorem dX8_cut_17 : decode cX8_cut 17 = .ok (.lload 4, 2) := by decide +kernel
theorem dX8_cut_19 : decode cX8_cut 19 = .ok (.goto 4, 3) := by decide +kernel
theorem dX8_cut_22 : decode cX8_cut 22 = .ok (.lload_n 0, 1) := by decide +kernel
theorem dX8_cut_23 : decode cX8_cut 23 = .ok (.lreturn, 1) := by decide +kernel
theorem dX8_repays_0 : decode cX8_repays 0 = .ok (.aload_n 0, 1) := by decide +kernel
theorem dX8_repays_1 : decode cX8_repays 1 = .ok (.iload_n 1, 1) := by decide +kernel
theorem dX8_repays_2 : decode cX8_repays 2 = .ok (.bipush 8, 2) := by decide +kernel
theorem dX8_repays_4 : decode cX8_repays 4 = .ok (.invokevirtual 136, 3) := by decide +kernel
theorem dX8_repays_7 : decode cX8_repays 7 = .ok (.lstore 4, 2) := by decide +kernel
theorem dX8_repays_9 : decode cX8_repays 9 = .ok (.aload_n 0, 1) := by decide +kernel
theorem dX8_repays_10 : decode cX8_repays 10 = .ok (.iload_n 1, 1) := by decide +kernel
theorem dX8_repays_11 : decode cX8_repays 11 = .ok (.bipush 7, 2) := by decide +kernel
theorem dX8_repays_13 : decode cX8_repays 13 = .ok (.invokevirtual 136, 3) := by decide +kernel
theorem dX8_repays_16 : decode cX8_repays 16 = .ok (.l2i, 1) := by decide +kernel
theorem dX8_repays_17 : decode cX8_repays 17 = .ok (.istore 6, 2) := by decide +kernel
theorem dX8_repays_19 : decode cX8_repays 19 = .ok (.iload 6, 2) := by decide +kernel
theorem dX8_repays_21 : decode cX8_repays 21 = .ok (.i2l, 1) := by decide +kernel
theorem dX8_repays_22 : decode cX8_repays 22 = .ok (.aload_n 0, 1) := by decide +kernel
theorem dX8_repays_23 : decode cX8_repays 23 = .ok (.iload_n 1, 1) := by decide +kernel
theorem dX8_repays_24 : decode cX8_repays 24 = .ok (.iconst 4, 1) := by decide +kernel
theorem dX8_repays_25 : decode cX8_repays 25 = .ok (.invokevirtual 136, 3) := by decide +kernel
theorem dX8_repays_28 : decode cX8_repays 28 = .ok (.lcmp, 1) := by decide +kernel
theorem dX8_repays_29 : decode cX8_repays 29 = .ok (.ifCond .ge 31, 3) := by decide +kernel
theorem dX8_repays_32 : decode cX8_repays 32 = .ok (.lload 4, 2) := by decide +kernel
theorem dX8_repays_34 : decode cX8_repays 34 = .ok (.lload_n 2, 1) := by decide +kernel
theorem dX8_repays_35 : decode cX8_repays 35 = .ok (.aload_n 0, 1) := by decide +kernel
theorem dX8_repays_36 : decode cX8_repays 36 = .ok (.iload_n 1, 1) := by decide +kernel
theorem dX8_repays_37 : decode cX8_repays 37 = .ok (.lload 4, 2) := by decide +kernel
theorem dX8_repays_39 : decode cX8_repays 39 = .ok (.iload 6, 2) := by decide +kernel
theorem dX8_repays_41 : decode cX8_repays 41 = .ok (.invokevirtual 146, 3) := by decide +kernel
theorem dX8_repays_44 : decode cX8_repays 44 = .ok (.lsub, 1) := by decide +kernel
theorem dX8_repays_45 : decode cX8_repays 45 = .ok (.lconst 0, 1) := by decide +kernel
theorem dX8_repays_46 : decode cX8_repays 46 = .ok (.lload 4, 2) := by decide +kernel
theorem dX8_repays_48 : decode cX8_repays 48 = .ok (.invokestatic 150, 3) := by decide +kernel
theorem dX8_repays_51 : decode cX8_repays 51 = .ok (.lsub, 1) := by decide +kernel
theorem dX8_repays_52 : decode cX8_repays 52 = .ok (.lstore 4, 2) := by decide +kernel
theorem dX8_repays_54 : decode cX8_repays 54 = .ok (.iinc 6 1, 3) := by decide +kernel
theorem dX8_repays_57 : decode cX8_repays 57 = .ok (.goto (-38), 3) := by decide +kernel
theorem dX8_repays_60 : decode cX8_repays 60 = .ok (.lload 4, 2) := by decide +kernel
theorem dX8_repays_62 : decode cX8_repays 62 = .ok (.lconst 0, 1) := by decide +kernel
theorem dX8_repays_63 : decode cX8_repays 63 = .ok (.lcmp, 1) := by decide +kernel
theorem dX8_repays_64 : decode cX8_repays 64 = .ok (.ifCond .ne 7, 3) := by decide +kernel
theorem dX8_repays_67 : decode cX8_repays 67 = .ok (.iconst 1, 1) := by decide +kernel
theorem dX8_repays_68 : decode cX8_repays 68 = .ok (.goto 4, 3) := by decide +kernel
theorem dX8_repays_71 : decode cX8_repays 71 = .ok (.iconst 0, 1) := by decide +kernel
theorem dX8_repays_72 : decode cX8_repays 72 = .ok (.ireturn, 1) := by decide +kernel
theorem dX8_level_0 : decode cX8_level 0 = .ok (.aload_n 0, 1) := by decide +kernel
theorem dX8_level_1 : decode cX8_level 1 = .ok (.iload_n 1, 1) := by decide +kernel
theorem dX8_level_2 : decode cX8_level 2 = .ok (.iconst 3, 1) := by decide +kernel
theorem dX8_level_3 : decode cX8_level 3 = .ok (.invokevirtual 136, 3) := by decide +kernel
theorem dX8_level_6 : decode cX8_level 6 = .ok (.lconst 0, 1) := by decide +kernel
theorem dX8_level_7 : decode cX8_level 7 = .ok (.lcmp, 1) := by decide +kernel
theorem dX8_level_8 : decode cX8_level 8 = .ok (.ifCond .ne 15, 3) := by decide +kernel
theorem dX8_level_11 : decode cX8_level 11 = .ok (.aload_n 0, 1) := by decide +kernel
theorem dX8_level_12 : decode cX8_level 12 = .ok (.iload_n 1, 1) := by decide +kernel
theorem dX8_level_13 : decode cX8_level 13 = .ok (.bipush 8, 2) := by decide +kernel
theorem dX8_level_15 : decode cX8_level 15 = .ok (.invokevirtual 136, 3) := by decide +kernel
theorem dX8_level_18 : decode cX8_level 18 = .ok (.lconst 0, 1) := by decide +kernel
theorem dX8_level_19 : decode cX8_level 19 = .ok (.lcmp, 1) := by decide +kernel
theorem dX8_level_20 : decode cX8_level 20 = .ok (.ifCond .ne 4, 3) := by decide +kernel
theorem dX8_level_23 : decode cX8_level 23 = .ok (.return_, 1) := by decide +kernel
theorem dX8_level_24 : decode cX8_level 24 = .ok (.lconst 0, 1) := by decide +kernel
theorem dX8_level_25 : decode cX8_level 25 = .ok (.lstore_n 2, 1) := by decide +kernel
theorem dX8_level_26 : decode cX8_level 26 = .ok (.ldc2_w 154, 3) := by decide +kernel
theorem dX8_level_29 : decode cX8_level 29 = .ok (.lstore 4, 2) := by decide +kernel
theorem dX8_level_31 : decode cX8_level 31 = .ok (.lload_n 2, 1) := by decide +kernel
theorem dX8_level_32 : decode cX8_level 32 = .ok (.lload 4, 2) := by decide +kernel
theorem dX8_level_34 : decode cX8_level 34 = .ok (.lcmp, 1) := by decide +kernel
theorem dX8_level_35 : decode cX8_level 35 = .ok (.ifCond .ge 38, 3) := by decide +kernel
theorem dX8_level_38 : decode cX8_level 38 = .ok (.lload_n 2, 1) := by decide +kernel
theorem dX8_level_39 : decode cX8_level 39 = .ok (.lload 4, 2) := by decide +kernel
theorem dX8_level_41 : decode cX8_level 41 = .ok (.ladd, 1) := by decide +kernel
theorem dX8_level_42 : decode cX8_level 42 = .ok (.ldc2_w 124, 3) := by decide +kernel
theorem dX8_level_45 : decode cX8_level 45 = .ok (.ldiv, 1) := by decide +kernel
theorem dX8_level_46 : decode cX8_level 46 = .ok (.lstore 6, 2) := by decide +kernel
theorem dX8_level_48 : decode cX8_level 48 = .ok (.aload_n 0, 1) := by decide +kernel
theorem dX8_level_49 : decode cX8_level 49 = .ok (.iload_n 1, 1) := by decide +kernel
theorem dX8_level_50 : decode cX8_level 50 = .ok (.lload 6, 2) := by decide +kernel
theorem dX8_level_52 : decode cX8_level 52 = .ok (.invokevirtual 156, 3) := by decide +kernel
theorem dX8_level_55 : decode cX8_level 55 = .ok (.ifCond .eq 10, 3) := by decide +kernel
theorem dX8_level_58 : decode cX8_level 58 = .ok (.lload 6, 2) := by decide +kernel
theorem dX8_level_60 : decode cX8_level 60 = .ok (.lstore 4, 2) := by decide +kernel
theorem dX8_level_62 : decode cX8_level 62 = .ok (.goto 8, 3) := by decide +kernel
theorem dX8_level_65 : decode cX8_level 65 = .ok (.lload 6, 2) := by decide +kernel
theorem dX8_level_67 : decode cX8_level 67 = .ok (.lconst 1, 1) := by decide +kernel
theorem dX8_level_68 : decode cX8_level 68 = .ok (.ladd, 1) := by decide +kernel
theorem dX8_level_69 : decode cX8_level 69 = .ok (.lstore_n 2, 1) := by decide +kernel
theorem dX8_level_70 : decode cX8_level 70 = .ok (.goto (-39), 3) := by decide +kernel
theorem dX8_level_73 : decode cX8_level 73 = .ok (.aload_n 0, 1) := by decide +kernel
theorem dX8_level_74 : decode cX8_level 74 = .ok (.iload_n 1, 1) := by decide +kernel
theorem dX8_level_75 : decode cX8_level 75 = .ok (.bipush 9, 2) := by decide +kernel
theorem dX8_level_77 : decode cX8_level 77 = .ok (.lload_n 2, 1) := by decide +kernel
theorem dX8_level_78 : decode cX8_level 78 = .ok (.invokevirtual 160, 3) := by decide +kernel
theorem dX8_level_81 : decode cX8_level 81 = .ok (.return_, 1) := by decide +kernel
theorem dX8_loan_0 : decode cX8_loan 0 = .ok (.lload_n 1, 1) := by decide +kernel
theorem dX8_loan_1 : decode cX8_loan 1 = .ok (.lconst 1, 1) := by decide +kernel
theorem dX8_loan_2 : decode cX8_loan 2 = .ok (.ldc2_w 126, 3) := by decide +kernel
theorem dX8_loan_5 : decode cX8_loan 5 = .ok (.invokestatic 85, 3) := by decide +kernel
theorem dX8_loan_8 : decode cX8_loan 8 = .ok (.ifCond .eq 78, 3) := by decide +kernel
theorem dX8_loan_11 : decode cX8_loan 11 = .ok (.iload_n 3, 1) := by decide +kernel
theorem dX8_loan_12 : decode cX8_loan 12 = .ok (.i2l, 1) := by decide +kernel
theorem dX8_loan_13 : decode cX8_loan 13 = .ok (.lconst 0, 1) := by decide +kernel
theorem dX8_loan_14 : decode cX8_loan 14 = .ok (.ldc2_w 128, 3) := by decide +kernel
theorem dX8_loan_17 : decode cX8_loan 17 = .ok (.invokestatic 85, 3) := by decide +kernel
theorem dX8_loan_20 : decode cX8_loan 20 = .ok (.ifCond .eq 66, 3) := by decide +kernel
theorem dX8_loan_23 : decode cX8_loan 23 = .ok (.iload 4, 2) := by decide +kernel
theorem dX8_loan_25 : decode cX8_loan 25 = .ok (.i2l, 1) := by decide +kernel
theorem dX8_loan_26 : decode cX8_loan 26 = .ok (.lconst 0, 1) := by decide +kernel
theorem dX8_loan_27 : decode cX8_loan 27 = .ok (.ldc2_w 92, 3) := by decide +kernel
theorem dX8_loan_30 : decode cX8_loan 30 = .ok (.invokestatic 85, 3) := by decide +kernel
theorem dX8_loan_33 : decode cX8_loan 33 = .ok (.ifCond .eq 53, 3) := by decide +kernel
theorem dX8_loan_36 : decode cX8_loan 36 = .ok (.iload 5, 2) := by decide +kernel
theorem dX8_loan_38 : decode cX8_loan 38 = .ok (.i2l, 1) := by decide +kernel
theorem dX8_loan_39 : decode cX8_loan 39 = .ok (.lconst 0, 1) := by decide +kernel
theorem dX8_loan_40 : decode cX8_loan 40 = .ok (.ldc2_w 164, 3) := by decide +kernel
theorem dX8_loan_43 : decode cX8_loan 43 = .ok (.invokestatic 85, 3) := by decide +kernel
theorem dX8_loan_46 : decode cX8_loan 46 = .ok (.ifCond .eq 40, 3) := by decide +kernel
theorem dX8_loan_49 : decode cX8_loan 49 = .ok (.iload 5, 2) := by decide +kernel
theorem dX8_loan_51 : decode cX8_loan 51 = .ok (.bipush 100, 2) := by decide +kernel
theorem dX8_loan_53 : decode cX8_loan 53 = .ok (.idiv, 1) := by decide +kernel
theorem dX8_loan_54 : decode cX8_loan 54 = .ok (.bipush 10, 2) := by decide +kernel
theorem dX8_loan_56 : decode cX8_loan 56 = .ok (.irem, 1) := by decide +kernel
theorem dX8_loan_57 : decode cX8_loan 57 = .ok (.i2l, 1) := by decide +kernel
theorem dX8_loan_58 : decode cX8_loan 58 = .ok (.lconst 0, 1) := by decide +kernel
theorem dX8_loan_59 : decode cX8_loan 59 = .ok (.lconst 1, 1) := by decide +kernel
theorem dX8_loan_60 : decode cX8_loan 60 = .ok (.invokestatic 85, 3) := by decide +kernel
theorem dX8_loan_63 : decode cX8_loan 63 = .ok (.ifCond .eq 23, 3) := by decide +kernel
theorem dX8_loan_66 : decode cX8_loan 66 = .ok (.iload 5, 2) := by decide +kernel
theorem dX8_loan_68 : decode cX8_loan 68 = .ok (.bipush 100, 2) := by decide +kernel
theorem dX8_loan_70 : decode cX8_loan 70 = .ok (.irem, 1) := by decide +kernel
theorem dX8_loan_71 : decode cX8_loan 71 = .ok (.i2l, 1) := by decide +kernel
theorem dX8_loan_72 : decode cX8_loan 72 = .ok (.lconst 1, 1) := by decide +kernel
theorem dX8_loan_73 : decode cX8_loan 73 = .ok (.ldc2_w 166, 3) := by decide +kernel
theorem dX8_loan_76 : decode cX8_loan 76 = .ok (.invokestatic 85, 3) := by decide +kernel
theorem dX8_loan_79 : decode cX8_loan 79 = .ok (.ifCond .eq 7, 3) := by decide +kernel
theorem dX8_loan_82 : decode cX8_loan 82 = .ok (.iconst 1, 1) := by decide +kernel
theorem dX8_loan_83 : decode cX8_loan 83 = .ok (.goto 4, 3) := by decide +kernel
theorem dX8_loan_86 : decode cX8_loan 86 = .ok (.iconst 0, 1) := by decide +kernel
theorem dX8_loan_87 : decode cX8_loan 87 = .ok (.istore 6, 2) := by decide +kernel
theorem dX8_loan_89 : decode cX8_loan 89 = .ok (.iload 6, 2) := by decide +kernel
theorem dX8_loan_91 : decode cX8_loan 91 = .ok (.ifCond .ne 5, 3) := by decide +kernel
theorem dX8_loan_94 : decode cX8_loan 94 = .ok (.iconst (-1), 1) := by decide +kernel
theorem dX8_loan_95 : decode cX8_loan 95 = .ok (.ireturn, 1) := by decide +kernel
theorem dX8_loan_96 : decode cX8_loan 96 = .ok (.aload_n 0, 1) := by decide +kernel
theorem dX8_loan_97 : decode cX8_loan 97 = .ok (.getfield 9, 3) := by decide +kernel
theorem dX8_loan_100 : decode cX8_loan 100 = .ok (.sipush 2521, 3) := by decide +kernel
theorem dX8_loan_103 : decode cX8_loan 103 = .ok (.laload, 1) := by decide +kernel
theorem dX8_loan_104 : decode cX8_loan 104 = .ok (.l2i, 1) := by decide +kernel
theorem dX8_loan_105 : decode cX8_loan 105 = .ok (.iload 5, 2) := by decide +kernel
theorem dX8_loan_107 : decode cX8_loan 107 = .ok (.bipush 100, 2) := by decide +kernel
theorem dX8_loan_109 : decode cX8_loan 109 = .ok (.irem, 1) := by decide +kernel
theorem dX8_loan_110 : decode cX8_loan 110 = .ok (.invokestatic 140, 3) := by decide +kernel
theorem dX8_loan_113 : decode cX8_loan 113 = .ok (.ldc 168, 2) := by decide +kernel
theorem dX8_loan_115 : decode cX8_loan 115 = .ok (.if_icmp .le 6, 3) := by decide +kernel
theorem dX8_loan_118 : decode cX8_loan 118 = .ok (.bipush (-5), 2) := by decide +kernel
theorem dX8_loan_120 : decode cX8_loan 120 = .ok (.ireturn, 1) := by decide +kernel
theorem dX8_loan_121 : decode cX8_loan 121 = .ok (.aload_n 0, 1) := by decide +kernel
theorem dX8_loan_122 : decode cX8_loan 122 = .ok (.getfield 9, 3) := by decide +kernel
theorem dX8_loan_125 : decode cX8_loan 125 = .ok (.sipush 2520, 3) := by decide +kernel
theorem dX8_loan_128 : decode cX8_loan 128 = .ok (.laload, 1) := by decide +kernel
theorem dX8_loan_129 : decode cX8_loan 129 = .ok (.ldc2_w 169, 3) := by decide +kernel
theorem dX8_loan_132 : decode cX8_loan 132 = .ok (.lcmp, 1) := by decide +kernel
theorem dX8_loan_133 : decode cX8_loan 133 = .ok (.ifCond .ne 6, 3) := by decide +kernel
theorem dX8_loan_136 : decode cX8_loan 136 = .ok (.bipush (-3), 2) := by decide +kernel
theorem dX8_loan_138 : decode cX8_loan 138 = .ok (.ireturn, 1) := by decide +kernel
theorem dX8_loan_139 : decode cX8_loan 139 = .ok (.aload_n 0, 1) := by decide +kernel
theorem dX8_loan_140 : decode cX8_loan 140 = .ok (.getfield 9, 3) := by decide +kernel
theorem dX8_loan_143 : decode cX8_loan 143 = .ok (.sipush 2520, 3) := by decide +kernel
theorem dX8_loan_146 : decode cX8_loan 146 = .ok (.dup2, 1) := by decide +kernel
theorem dX8_loan_147 : decode cX8_loan 147 = .ok (.laload, 1) := by decide +kernel
theorem dX8_loan_148 : decode cX8_loan 148 = .ok (.dup2_x2, 1) := by decide +kernel
theorem dX8_loan_149 : decode cX8_loan 149 = .ok (.lconst 1, 1) := by decide +kernel
theorem dX8_loan_150 : decode cX8_loan 150 = .ok (.ladd, 1) := by decide +kernel
theorem dX8_loan_151 : decode cX8_loan 151 = .ok (.lastore, 1) := by decide +kernel
theorem dX8_loan_152 : decode cX8_loan 152 = .ok (.l2i, 1) := by decide +kernel
theorem dX8_loan_153 : decode cX8_loan 153 = .ok (.istore 7, 2) := by decide +kernel
theorem dX8_loan_155 : decode cX8_loan 155 = .ok (.iconst 0, 1) := by decide +kernel
theorem dX8_loan_156 : decode cX8_loan 156 = .ok (.istore 8, 2) := by decide +kernel
theorem dX8_loan_158 : decode cX8_loan 158 = .ok (.iload 8, 2) := by decide +kernel
theorem dX8_loan_160 : decode cX8_loan 160 = .ok (.sipush 315, 3) := by decide +kernel
theorem dX8_loan_163 : decode cX8_loan 163 = .ok (.if_icmp .ge 18, 3) := by decide +kernel
theorem dX8_loan_166 : decode cX8_loan 166 = .ok (.aload_n 0, 1) := by decide +kernel
theorem dX8_loan_167 : decode cX8_loan 167 = .ok (.iload 7, 2) := by decide +kernel
theorem dX8_loan_169 : decode cX8_loan 169 = .ok (.iload 8, 2) := by decide +kernel
theorem dX8_loan_171 : decode cX8_loan 171 = .ok (.lconst 0, 1) := by decide +kernel
theorem dX8_loan_172 : decode cX8_loan 172 = .ok (.invokevirtual 160, 3) := by decide +kernel
theorem dX8_loan_175 : decode cX8_loan 175 = .ok (.iinc 8 1, 3) := by decide +kernel
theorem dX8_loan_178 : decode cX8_loan 178 = .ok (.goto (-20), 3) := by decide +kernel
theorem dX8_loan_181 : decode cX8_loan 181 = .ok (.aload_n 0, 1) := by decide +kernel
theorem dX8_loan_182 : decode cX8_loan 182 = .ok (.iload 7, 2) := by decide +kernel
theorem dX8_loan_184 : decode cX8_loan 184 = .ok (.iconst 0, 1) := by decide +kernel
theorem dX8_loan_185 : decode cX8_loan 185 = .ok (.lload_n 1, 1) := by decide +kernel
theorem dX8_loan_186 : decode cX8_loan 186 = .ok (.invokevirtual 160, 3) := by decide +kernel
theorem dX8_loan_189 : decode cX8_loan 189 = .ok (.aload_n 0, 1) := by decide +kernel
theorem dX8_loan_190 : decode cX8_loan 190 = .ok (.iload 7, 2) := by decide +kernel
theorem dX8_loan_192 : decode cX8_loan 192 = .ok (.iconst 1, 1) := by decide +kernel
theorem dX8_loan_193 : decode cX8_loan 193 = .ok (.iload_n 3, 1) := by decide +kernel
theorem dX8_loan_194 : decode cX8_loan 194 = .ok (.i2l, 1) := by decide +kernel
theorem dX8_loan_195 : decode cX8_loan 195 = .ok (.invokevirtual 160, 3) := by decide +kernel
theorem dX8_loan_198 : decode cX8_loan 198 = .ok (.aload_n 0, 1) := by decide +kernel
theorem dX8_loan_199 : decode cX8_loan 199 = .ok (.iload 7, 2) := by decide +kernel
theorem dX8_loan_201 : decode cX8_loan 201 = .ok (.iconst 2, 1) := by decide +kernel
theorem dX8_loan_202 : decode cX8_loan 202 = .ok (.iload 4, 2) := by decide +kernel
theorem dX8_loan_204 : decode cX8_loan 204 = .ok (.i2l, 1) := by decide +kernel
theorem dX8_loan_205 : decode cX8_loan 205 = .ok (.invokevirtual 160, 3) := by decide +kernel
theorem dX8_loan_208 : decode cX8_loan 208 = .ok (.aload_n 0, 1) := by decide +kernel
theorem dX8_loan_209 : decode cX8_loan 209 = .ok (.iload 7, 2) := by decide +kernel
theorem dX8_loan_211 : decode cX8_loan 211 = .ok (.iconst 3, 1) := by decide +kernel
theorem dX8_loan_212 : decode cX8_loan 212 = .ok (.iload 5, 2) := by decide +kernel
theorem dX8_loan_214 : decode cX8_loan 214 = .ok (.sipush 1000, 3) := by decide +kernel
theorem dX8_loan_217 : decode cX8_loan 217 = .ok (.idiv, 1) := by decide +kernel
theorem dX8_loan_218 : decode cX8_loan 218 = .ok (.i2l, 1) := by decide +kernel
theorem dX8_loan_219 : decode cX8_loan 219 = .ok (.invokevirtual 160, 3) := by decide +kernel
theorem dX8_loan_222 : decode cX8_loan 222 = .ok (.aload_n 0, 1) := by decide +kernel
theorem dX8_loan_223 : decode cX8_loan 223 = .ok (.iload 7, 2) := by decide +kernel
theorem dX8_loan_225 : decode cX8_loan 225 = .ok (.iconst 5, 1) := by decide +kernel
theorem dX8_loan_226 : decode cX8_loan 226 = .ok (.iload 5, 2) := by decide +kernel
theorem dX8_loan_228 : decode cX8_loan 228 = .ok (.bipush 100, 2) := by decide +kernel
theorem dX8_loan_230 : decode cX8_loan 230 = .ok (.idiv, 1) := by decide +kernel
theorem dX8_loan_231 : decode cX8_loan 231 = .ok (.bipush 10, 2) := by decide +kernel
theorem dX8_loan_233 : decode cX8_loan 233 = .ok (.irem, 1) := by decide +kernel
theorem dX8_loan_234 : decode cX8_loan 234 = .ok (.i2l, 1) := by decide +kernel
theorem dX8_loan_235 : decode cX8_loan 235 = .ok (.invokevirtual 160, 3) := by decide +kernel
theorem dX8_loan_238 : decode cX8_loan 238 = .ok (.aload_n 0, 1) := by decide +kernel
theorem dX8_loan_239 : decode cX8_loan 239 = .ok (.iload 7, 2) := by decide +kernel
theorem dX8_loan_241 : decode cX8_loan 241 = .ok (.iconst 4, 1) := by decide +kernel
theorem dX8_loan_242 : decode cX8_loan 242 = .ok (.iload 5, 2) := by decide +kernel
theorem dX8_loan_244 : decode cX8_loan 244 = .ok (.bipush 100, 2) := by decide +kernel
theorem dX8_loan_246 : decode cX8_loan 246 = .ok (.irem, 1) := by decide +kernel
theorem dX8_loan_247 : decode cX8_loan 247 = .ok (.i2l, 1) := by decide +kernel
theorem dX8_loan_248 : decode cX8_loan 248 = .ok (.invokevirtual 160, 3) := by decide +kernel
theorem dX8_loan_251 : decode cX8_loan 251 = .ok (.aload_n 0, 1) := by decide +kernel
theorem dX8_loan_252 : decode cX8_loan 252 = .ok (.iload 7, 2) := by decide +kernel
theorem dX8_loan_254 : decode cX8_loan 254 = .ok (.bipush 6, 2) := by decide +kernel
theorem dX8_loan_256 : decode cX8_loan 256 = .ok (.aload_n 0, 1) := by decide +kernel
theorem dX8_loan_257 : decode cX8_loan 257 = .ok (.getfield 9, 3) := by decide +kernel
theorem dX8_loan_260 : decode cX8_loan 260 = .ok (.sipush 2521, 3) := by decide +kernel
theorem dX8_loan_263 : decode cX8_loan 263 = .ok (.laload, 1) := by decide +kernel
theorem dX8_loan_264 : decode cX8_loan 264 = .ok (.invokevirtual 160, 3) := by decide +kernel
theorem dX8_loan_267 : decode cX8_loan 267 = .ok (.aload_n 0, 1) := by decide +kernel
theorem dX8_loan_268 : decode cX8_loan 268 = .ok (.iload 7, 2) := by decide +kernel
theorem dX8_loan_270 : decode cX8_loan 270 = .ok (.bipush 8, 2) := by decide +kernel
theorem dX8_loan_272 : decode cX8_loan 272 = .ok (.lload_n 1, 1) := by decide +kernel
theorem dX8_loan_273 : decode cX8_loan 273 = .ok (.invokevirtual 160, 3) := by decide +kernel
theorem dX8_loan_276 : decode cX8_loan 276 = .ok (.aload_n 0, 1) := by decide +kernel
theorem dX8_loan_277 : decode cX8_loan 277 = .ok (.iload 7, 2) := by decide +kernel
theorem dX8_loan_279 : decode cX8_loan 279 = .ok (.invokevirtual 171, 3) := by decide +kernel
theorem dX8_loan_282 : decode cX8_loan 282 = .ok (.iload 7, 2) := by decide +kernel
theorem dX8_loan_284 : decode cX8_loan 284 = .ok (.ireturn, 1) := by decide +kernel
theorem dX8_principalOf_0 : decode cX8_principalOf 0 = .ok (.aload_n 0, 1) := by decide +kernel
theorem dX8_principalOf_1 : decode cX8_principalOf 1 = .ok (.iload_n 1, 1) := by decide +kernel
theorem dX8_principalOf_2 : decode cX8_principalOf 2 = .ok (.iconst 4, 1) := by decide +kernel
theorem dX8_principalOf_3 : decode cX8_principalOf 3 = .ok (.invokevirtual 136, 3) := by decide +kernel
theorem dX8_principalOf_6 : decode cX8_principalOf 6 = .ok (.l2i, 1) := by decide +kernel
theorem dX8_principalOf_7 : decode cX8_principalOf 7 = .ok (.iload 6, 2) := by decide +kernel
theorem dX8_principalOf_9 : decode cX8_principalOf 9 = .ok (.isub, 1) := by decide +kernel
theorem dX8_principalOf_10 : decode cX8_principalOf 10 = .ok (.istore 7, 2) := by decide +kernel
theorem dX8_principalOf_12 : decode cX8_principalOf 12 = .ok (.iload 7, 2) := by decide +kernel
theorem dX8_principalOf_14 : decode cX8_principalOf 14 = .ok (.iconst 1, 1) := by decide +kernel
theorem dX8_principalOf_15 : decode cX8_principalOf 15 = .ok (.if_icmp .ne 5, 3) := by decide +kernel
theorem dX8_principalOf_18 : decode cX8_principalOf 18 = .ok (.lload_n 2, 1) := by decide +kernel
theorem dX8_principalOf_19 : decode cX8_principalOf 19 = .ok (.lreturn, 1) := by decide +kernel
theorem dX8_principalOf_20 : decode cX8_principalOf 20 = .ok (.aload_n 0, 1) := by decide +kernel
theorem dX8_principalOf_21 : decode cX8_principalOf 21 = .ok (.iload_n 1, 1) := by decide +kernel
theorem dX8_principalOf_22 : decode cX8_principalOf 22 = .ok (.iconst 3, 1) := by decide +kernel
theorem dX8_principalOf_23 : decode cX8_principalOf 23 = .ok (.invokevirtual 136, 3) := by decide +kernel
theorem dX8_principalOf_26 : decode cX8_principalOf 26 = .ok (.lconst 0, 1) := by decide +kernel
theorem dX8_principalOf_27 : decode cX8_principalOf 27 = .ok (.lcmp, 1) := by decide +kernel
theorem dX8_principalOf_28 : decode cX8_principalOf 28 = .ok (.ifCond .ne 21, 3) := by decide +kernel
theorem dX8_principalOf_31 : decode cX8_principalOf 31 = .ok (.aload_n 0, 1) := by decide +kernel
theorem dX8_principalOf_32 : decode cX8_principalOf 32 = .ok (.iload_n 1, 1) := by decide +kernel
theorem dX8_principalOf_33 : decode cX8_principalOf 33 = .ok (.bipush 9, 2) := by decide +kernel
theorem dX8_principalOf_35 : decode cX8_principalOf 35 = .ok (.invokevirtual 136, 3) := by decide +kernel
theorem dX8_principalOf_38 : decode cX8_principalOf 38 = .ok (.lload 4, 2) := by decide +kernel
theorem dX8_principalOf_40 : decode cX8_principalOf 40 = .ok (.lsub, 1) := by decide +kernel
theorem dX8_principalOf_41 : decode cX8_principalOf 41 = .ok (.lconst 0, 1) := by decide +kernel
theorem dX8_principalOf_42 : decode cX8_principalOf 42 = .ok (.lload_n 2, 1) := by decide +kernel
theorem dX8_principalOf_43 : decode cX8_principalOf 43 = .ok (.invokestatic 150, 3) := by decide +kernel
theorem dX8_principalOf_46 : decode cX8_principalOf 46 = .ok (.goto 23, 3) := by decide +kernel
theorem dX8_principalOf_49 : decode cX8_principalOf 49 = .ok (.aload_n 0, 1) := by decide +kernel
theorem dX8_principalOf_50 : decode cX8_principalOf 50 = .ok (.iload_n 1, 1) := by decide +kernel
theorem dX8_principalOf_51 : decode cX8_principalOf 51 = .ok (.iconst 3, 1) := by decide +kernel
theorem dX8_principalOf_52 : decode cX8_principalOf 52 = .ok (.invokevirtual 136, 3) := by decide +kernel
theorem dX8_principalOf_55 : decode cX8_principalOf 55 = .ok (.lconst 1, 1) := by decide +kernel
theorem dX8_principalOf_56 : decode cX8_principalOf 56 = .ok (.lcmp, 1) := by decide +kernel
theorem dX8_principalOf_57 : decode cX8_principalOf 57 = .ok (.ifCond .ne 11, 3) := by decide +kernel
theorem dX8_principalOf_60 : decode cX8_principalOf 60 = .ok (.lload_n 2, 1) := by decide +kernel
theorem dX8_principalOf_61 : decode cX8_principalOf 61 = .ok (.iload 7, 2) := by decide +kernel
theorem dX8_principalOf_63 : decode cX8_principalOf 63 = .ok (.i2l, 1) := by decide +kernel
theorem dX8_principalOf_64 : decode cX8_principalOf 64 = .ok (.ldiv, 1) := by decide +kernel
theorem dX8_principalOf_65 : decode cX8_principalOf 65 = .ok (.goto 4, 3) := by decide +kernel
theorem dX8_principalOf_68 : decode cX8_principalOf 68 = .ok (.lconst 0, 1) := by decide +kernel
theorem dX8_principalOf_69 : decode cX8_principalOf 69 = .ok (.lreturn, 1) := by decide +kernel
theorem dX8_ends_0 : decode cX8_ends 0 = .ok (.aload_n 0, 1) := by decide +kernel
theorem dX8_ends_1 : decode cX8_ends 1 = .ok (.iload_n 1, 1) := by decide +kernel
theorem dX8_ends_2 : decode cX8_ends 2 = .ok (.bipush 7, 2) := by decide +kernel
theorem dX8_ends_4 : decode cX8_ends 4 = .ok (.invokevirtual 136, 3) := by decide +kernel
theorem dX8_ends_7 : decode cX8_ends 7 = .ok (.l2i, 1) := by decide +kernel
theorem dX8_ends_8 : decode cX8_ends 8 = .ok (.istore_n 2, 1) := by decide +kernel
theorem dX8_ends_9 : decode cX8_ends 9 = .ok (.aload_n 0, 1) := by decide +kernel
theorem dX8_ends_10 : decode cX8_ends 10 = .ok (.iload_n 1, 1) := by decide +kernel
theorem dX8_ends_11 : decode cX8_ends 11 = .ok (.bipush 8, 2) := by decide +kernel
theorem dX8_ends_13 : decode cX8_ends 13 = .ok (.invokevirtual 136, 3) := by decide +kernel
theorem dX8_ends_16 : decode cX8_ends 16 = .ok (.lstore_n 3, 1) := by decide +kernel
theorem dX8_ends_17 : decode cX8_ends 17 = .ok (.aload_n 0, 1) := by decide +kernel
theorem dX8_ends_18 : decode cX8_ends 18 = .ok (.iload_n 1, 1) := by decide +kernel
theorem dX8_ends_19 : decode cX8_ends 19 = .ok (.lload_n 3, 1) := by decide +kernel
theorem dX8_ends_20 : decode cX8_ends 20 = .ok (.iload_n 2, 1) := by decide +kernel
theorem dX8_ends_21 : decode cX8_ends 21 = .ok (.invokevirtual 146, 3) := by decide +kernel
theorem dX8_ends_24 : decode cX8_ends 24 = .ok (.lstore 5, 2) := by decide +kernel
theorem dX8_ends_26 : decode cX8_ends 26 = .ok (.aload_n 0, 1) := by decide +kernel
theorem dX8_ends_27 : decode cX8_ends 27 = .ok (.iload_n 1, 1) := by decide +kernel
theorem dX8_ends_28 : decode cX8_ends 28 = .ok (.lload_n 3, 1) := by decide +kernel
theorem dX8_ends_29 : decode cX8_ends 29 = .ok (.lload 5, 2) := by decide +kernel
theorem dX8_ends_31 : decode cX8_ends 31 = .ok (.iload_n 2, 1) := by decide +kernel
theorem dX8_ends_32 : decode cX8_ends 32 = .ok (.invokevirtual 175, 3) := by decide +kernel
theorem dX8_ends_35 : decode cX8_ends 35 = .ok (.lstore 7, 2) := by decide +kernel
theorem dX8_ends_37 : decode cX8_ends 37 = .ok (.aload_n 0, 1) := by decide +kernel
theorem dX8_ends_38 : decode cX8_ends 38 = .ok (.iload_n 1, 1) := by decide +kernel
theorem dX8_ends_39 : decode cX8_ends 39 = .ok (.bipush 7, 2) := by decide +kernel
theorem dX8_ends_41 : decode cX8_ends 41 = .ok (.iload_n 2, 1) := by decide +kernel
theorem dX8_ends_42 : decode cX8_ends 42 = .ok (.iconst 1, 1) := by decide +kernel
theorem dX8_ends_43 : decode cX8_ends 43 = .ok (.iadd, 1) := by decide +kernel
theorem dX8_ends_44 : decode cX8_ends 44 = .ok (.i2l, 1) := by decide +kernel
theorem dX8_ends_45 : decode cX8_ends 45 = .ok (.invokevirtual 160, 3) := by decide +kernel
theorem dX8_ends_48 : decode cX8_ends 48 = .ok (.aload_n 0, 1) := by decide +kernel
theorem dX8_ends_49 : decode cX8_ends 49 = .ok (.iload_n 1, 1) := by decide +kernel
theorem dX8_ends_50 : decode cX8_ends 50 = .ok (.bipush 8, 2) := by decide +kernel
theorem dX8_ends_52 : decode cX8_ends 52 = .ok (.lload_n 3, 1) := by decide +kernel
theorem dX8_ends_53 : decode cX8_ends 53 = .ok (.lload 7, 2) := by decide +kernel
theorem dX8_ends_55 : decode cX8_ends 55 = .ok (.lsub, 1) := by decide +kernel
theorem dX8_ends_56 : decode cX8_ends 56 = .ok (.invokevirtual 160, 3) := by decide +kernel
theorem dX8_ends_59 : decode cX8_ends 59 = .ok (.lload 5, 2) := by decide +kernel
theorem dX8_ends_61 : decode cX8_ends 61 = .ok (.lload 7, 2) := by decide +kernel
theorem dX8_ends_63 : decode cX8_ends 63 = .ok (.ladd, 1) := by decide +kernel
theorem dX8_ends_64 : decode cX8_ends 64 = .ok (.lconst 0, 1) := by decide +kernel
theorem dX8_ends_65 : decode cX8_ends 65 = .ok (.lcmp, 1) := by decide +kernel
theorem dX8_ends_66 : decode cX8_ends 66 = .ok (.ifCond .ne 5, 3) := by decide +kernel
theorem dX8_ends_69 : decode cX8_ends 69 = .ok (.iconst 0, 1) := by decide +kernel
theorem dX8_ends_70 : decode cX8_ends 70 = .ok (.ireturn, 1) := by decide +kernel
theorem dX8_ends_71 : decode cX8_ends 71 = .ok (.bipush 15, 2) := by decide +kernel
theorem dX8_ends_73 : decode cX8_ends 73 = .ok (.iconst 5, 1) := by decide +kernel
theorem dX8_ends_74 : decode cX8_ends 74 = .ok (.aload_n 0, 1) := by decide +kernel
theorem dX8_ends_75 : decode cX8_ends 75 = .ok (.iload_n 1, 1) := by decide +kernel
theorem dX8_ends_76 : decode cX8_ends 76 = .ok (.bipush 14, 2) := by decide +kernel
theorem dX8_ends_78 : decode cX8_ends 78 = .ok (.invokevirtual 136, 3) := by decide +kernel
theorem dX8_ends_81 : decode cX8_ends 81 = .ok (.l2i, 1) := by decide +kernel
theorem dX8_ends_82 : decode cX8_ends 82 = .ok (.imul, 1) := by decide +kernel
theorem dX8_ends_83 : decode cX8_ends 83 = .ok (.iadd, 1) := by decide +kernel
theorem dX8_ends_84 : decode cX8_ends 84 = .ok (.istore 9, 2) := by decide +kernel
theorem dX8_ends_86 : decode cX8_ends 86 = .ok (.aload_n 0, 1) := by decide +kernel
theorem dX8_ends_87 : decode cX8_ends 87 = .ok (.iload_n 1, 1) := by decide +kernel
theorem dX8_ends_88 : decode cX8_ends 88 = .ok (.iload 9, 2) := by decide +kernel
theorem dX8_ends_90 : decode cX8_ends 90 = .ok (.aload_n 0, 1) := by decide +kernel
theorem dX8_ends_91 : decode cX8_ends 91 = .ok (.getfield 9, 3) := by decide +kernel
theorem dX8_ends_94 : decode cX8_ends 94 = .ok (.sipush 2521, 3) := by decide +kernel
theorem dX8_ends_97 : decode cX8_ends 97 = .ok (.laload, 1) := by decide +kernel
theorem dX8_ends_98 : decode cX8_ends 98 = .ok (.invokevirtual 160, 3) := by decide +kernel
theorem dX8_ends_101 : decode cX8_ends 101 = .ok (.aload_n 0, 1) := by decide +kernel
theorem dX8_ends_102 : decode cX8_ends 102 = .ok (.iload_n 1, 1) := by decide +kernel
theorem dX8_ends_103 : decode cX8_ends 103 = .ok (.iload 9, 2) := by decide +kernel
theorem dX8_ends_105 : decode cX8_ends 105 = .ok (.iconst 1, 1) := by decide +kernel
theorem dX8_ends_106 : decode cX8_ends 106 = .ok (.iadd, 1) := by decide +kernel
theorem dX8_ends_107 : decode cX8_ends 107 = .ok (.lload 5, 2) := by decide +kernel
theorem dX8_ends_109 : decode cX8_ends 109 = .ok (.invokevirtual 160, 3) := by decide +kernel
theorem dX8_ends_112 : decode cX8_ends 112 = .ok (.aload_n 0, 1) := by decide +kernel
theorem dX8_ends_113 : decode cX8_ends 113 = .ok (.iload_n 1, 1) := by decide +kernel
theorem dX8_ends_114 : decode cX8_ends 114 = .ok (.iload 9, 2) := by decide +kernel
theorem dX8_ends_116 : decode cX8_ends 116 = .ok (.iconst 2, 1) := by decide +kernel
theorem dX8_ends_117 : decode cX8_ends 117 = .ok (.iadd, 1) := by decide +kernel
theorem dX8_ends_118 : decode cX8_ends 118 = .ok (.lload 7, 2) := by decide +kernel
theorem dX8_ends_120 : decode cX8_ends 120 = .ok (.invokevirtual 160, 3) := by decide +kernel
theorem dX8_ends_123 : decode cX8_ends 123 = .ok (.aload_n 0, 1) := by decide +kernel
theorem dX8_ends_124 : decode cX8_ends 124 = .ok (.iload_n 1, 1) := by decide +kernel
theorem dX8_ends_125 : decode cX8_ends 125 = .ok (.iload 9, 2) := by decide +kernel
theorem dX8_ends_127 : decode cX8_ends 127 = .ok (.iconst 3, 1) := by decide +kernel
theorem dX8_ends_128 : decode cX8_ends 128 = .ok (.iadd, 1) := by decide +kernel
theorem dX8_ends_129 : decode cX8_ends 129 = .ok (.lconst 0, 1) := by decide +kernel
theorem dX8_ends_130 : decode cX8_ends 130 = .ok (.invokevirtual 160, 3) := by decide +kernel
theorem dX8_ends_133 : decode cX8_ends 133 = .ok (.aload_n 0, 1) := by decide +kernel
theorem dX8_ends_134 : decode cX8_ends 134 = .ok (.iload_n 1, 1) := by decide +kernel
theorem dX8_ends_135 : decode cX8_ends 135 = .ok (.iload 9, 2) := by decide +kernel
theorem dX8_ends_137 : decode cX8_ends 137 = .ok (.iconst 4, 1) := by decide +kernel
theorem dX8_ends_138 : decode cX8_ends 138 = .ok (.iadd, 1) := by decide +kernel
theorem dX8_ends_139 : decode cX8_ends 139 = .ok (.lconst 0, 1) := by decide +kernel
theorem dX8_ends_140 : decode cX8_ends 140 = .ok (.invokevirtual 160, 3) := by decide +kernel
theorem dX8_ends_143 : decode cX8_ends 143 = .ok (.aload_n 0, 1) := by decide +kernel
theorem dX8_ends_144 : decode cX8_ends 144 = .ok (.iload_n 1, 1) := by decide +kernel
theorem dX8_ends_145 : decode cX8_ends 145 = .ok (.bipush 14, 2) := by decide +kernel
theorem dX8_ends_147 : decode cX8_ends 147 = .ok (.aload_n 0, 1) := by decide +kernel
theorem dX8_ends_148 : decode cX8_ends 148 = .ok (.iload_n 1, 1) := by decide +kernel
theorem dX8_ends_149 : decode cX8_ends 149 = .ok (.bipush 14, 2) := by decide +kernel
theorem dX8_ends_151 : decode cX8_ends 151 = .ok (.invokevirtual 136, 3) := by decide +kernel
theorem dX8_ends_154 : decode cX8_ends 154 = .ok (.lconst 1, 1) := by decide +kernel
theorem dX8_ends_155 : decode cX8_ends 155 = .ok (.ladd, 1) := by decide +kernel
theorem dX8_ends_156 : decode cX8_ends 156 = .ok (.invokevirtual 160, 3) := by decide +kernel
theorem dX8_ends_159 : decode cX8_ends 159 = .ok (.iconst 1, 1) := by decide +kernel
theorem dX8_ends_160 : decode cX8_ends 160 = .ok (.ireturn, 1) := by decide +kernel
theorem dX8_fees_0 : decode cX8_fees 0 = .ok (.iconst 0, 1) := by decide +kernel
theorem dX8_fees_1 : decode cX8_fees 1 = .ok (.istore_n 2, 1) := by decide +kernel
theorem dX8_fees_2 : decode cX8_fees 2 = .ok (.iload_n 2, 1) := by decide +kernel
theorem dX8_fees_3 : decode cX8_fees 3 = .ok (.i2l, 1) := by decide +kernel
theorem dX8_fees_4 : decode cX8_fees 4 = .ok (.aload_n 0, 1) := by decide +kernel
theorem dX8_fees_5 : decode cX8_fees 5 = .ok (.iload_n 1, 1) := by decide +kernel
theorem dX8_fees_6 : decode cX8_fees 6 = .ok (.bipush 14, 2) := by decide +kernel
theorem dX8_fees_8 : decode cX8_fees 8 = .ok (.invokevirtual 136, 3) := by decide +kernel
theorem dX8_fees_11 : decode cX8_fees 11 = .ok (.lcmp, 1) := by decide +kernel
theorem dX8_fees_12 : decode cX8_fees 12 = .ok (.ifCond .ge 81, 3) := by decide +kernel
theorem dX8_fees_15 : decode cX8_fees 15 = .ok (.bipush 15, 2) := by decide +kernel
theorem dX8_fees_17 : decode cX8_fees 17 = .ok (.iconst 5, 1) := by decide +kernel
theorem dX8_fees_18 : decode cX8_fees 18 = .ok (.iload_n 2, 1) := by decide +kernel
theorem dX8_fees_19 : decode cX8_fees 19 = .ok (.imul, 1) := by decide +kernel
theorem dX8_fees_20 : decode cX8_fees 20 = .ok (.iadd, 1) := by decide +kernel
theorem dX8_fees_21 : decode cX8_fees 21 = .ok (.istore_n 3, 1) := by decide +kernel
theorem dX8_fees_22 : decode cX8_fees 22 = .ok (.aload_n 0, 1) := by decide +kernel
theorem dX8_fees_23 : decode cX8_fees 23 = .ok (.iload_n 1, 1) := by decide +kernel
theorem dX8_fees_24 : decode cX8_fees 24 = .ok (.iload_n 3, 1) := by decide +kernel
theorem dX8_fees_25 : decode cX8_fees 25 = .ok (.iconst 4, 1) := by decide +kernel
theorem dX8_fees_26 : decode cX8_fees 26 = .ok (.iadd, 1) := by decide +kernel
theorem dX8_fees_27 : decode cX8_fees 27 = .ok (.invokevirtual 136, 3) := by decide +kernel
theorem dX8_fees_30 : decode cX8_fees 30 = .ok (.lconst 0, 1) := by decide +kernel
theorem dX8_fees_31 : decode cX8_fees 31 = .ok (.lcmp, 1) := by decide +kernel
theorem dX8_fees_32 : decode cX8_fees 32 = .ok (.ifCond .ne 55, 3) := by decide +kernel
theorem dX8_fees_35 : decode cX8_fees 35 = .ok (.aload_n 0, 1) := by decide +kernel
theorem dX8_fees_36 : decode cX8_fees 36 = .ok (.getfield 9, 3) := by decide +kernel
theorem dX8_fees_39 : decode cX8_fees 39 = .ok (.sipush 2521, 3) := by decide +kernel
theorem dX8_fees_42 : decode cX8_fees 42 = .ok (.laload, 1) := by decide +kernel
theorem dX8_fees_43 : decode cX8_fees 43 = .ok (.aload_n 0, 1) := by decide +kernel
theorem dX8_fees_44 : decode cX8_fees 44 = .ok (.iload_n 1, 1) := by decide +kernel
theorem dX8_fees_45 : decode cX8_fees 45 = .ok (.iload_n 3, 1) := by decide +kernel
theorem dX8_fees_46 : decode cX8_fees 46 = .ok (.invokevirtual 136, 3) := by decide +kernel
theorem dX8_fees_49 : decode cX8_fees 49 = .ok (.lsub, 1) := by decide +kernel
theorem dX8_fees_50 : decode cX8_fees 50 = .ok (.aload_n 0, 1) := by decide +kernel
theorem dX8_fees_51 : decode cX8_fees 51 = .ok (.getfield 9, 3) := by decide +kernel
theorem dX8_fees_54 : decode cX8_fees 54 = .ok (.sipush 2522, 3) := by decide +kernel
theorem dX8_fees_57 : decode cX8_fees 57 = .ok (.laload, 1) := by decide +kernel
theorem dX8_fees_58 : decode cX8_fees 58 = .ok (.lcmp, 1) := by decide +kernel
theorem dX8_fees_59 : decode cX8_fees 59 = .ok (.ifCond .ne 28, 3) := by decide +kernel
theorem dX8_fees_62 : decode cX8_fees 62 = .ok (.aload_n 0, 1) := by decide +kernel
theorem dX8_fees_63 : decode cX8_fees 63 = .ok (.iload_n 1, 1) := by decide +kernel
theorem dX8_fees_64 : decode cX8_fees 64 = .ok (.iload_n 3, 1) := by decide +kernel
theorem dX8_fees_65 : decode cX8_fees 65 = .ok (.iconst 3, 1) := by decide +kernel
theorem dX8_fees_66 : decode cX8_fees 66 = .ok (.iadd, 1) := by decide +kernel
theorem dX8_fees_67 : decode cX8_fees 67 = .ok (.aload_n 0, 1) := by decide +kernel
theorem dX8_fees_68 : decode cX8_fees 68 = .ok (.getfield 9, 3) := by decide +kernel
theorem dX8_fees_71 : decode cX8_fees 71 = .ok (.sipush 2523, 3) := by decide +kernel
theorem dX8_fees_74 : decode cX8_fees 74 = .ok (.laload, 1) := by decide +kernel
theorem dX8_fees_75 : decode cX8_fees 75 = .ok (.invokevirtual 160, 3) := by decide +kernel
theorem dX8_fees_78 : decode cX8_fees 78 = .ok (.aload_n 0, 1) := by decide +kernel
theorem dX8_fees_79 : decode cX8_fees 79 = .ok (.iload_n 1, 1) := by decide +kernel
theorem dX8_fees_80 : decode cX8_fees 80 = .ok (.iload_n 3, 1) := by decide +kernel
theorem dX8_fees_81 : decode cX8_fees 81 = .ok (.iconst 4, 1) := by decide +kernel
theorem dX8_fees_82 : decode cX8_fees 82 = .ok (.iadd, 1) := by decide +kernel
theorem dX8_fees_83 : decode cX8_fees 83 = .ok (.lconst 1, 1) := by decide +kernel
theorem dX8_fees_84 : decode cX8_fees 84 = .ok (.invokevirtual 160, 3) := by decide +kernel
theorem dX8_fees_87 : decode cX8_fees 87 = .ok (.iinc 2 1, 3) := by decide +kernel
theorem dX8_fees_90 : decode cX8_fees 90 = .ok (.goto (-88), 3) := by decide +kernel
theorem dX8_fees_93 : decode cX8_fees 93 = .ok (.return_, 1) := by decide +kernel
theorem dX8_days_0 : decode cX8_days 0 = .ok (.iload_n 1, 1) := by decide +kernel
theorem dX8_days_1 : decode cX8_days 1 = .ok (.i2l, 1) := by decide +kernel
theorem dX8_days_2 : decode cX8_days 2 = .ok (.lconst 1, 1) := by decide +kernel
theorem dX8_days_3 : decode cX8_days 3 = .ok (.ldc2_w 179, 3) := by decide +kernel
theorem dX8_days_6 : decode cX8_days 6 = .ok (.invokestatic 85, 3) := by decide +kernel
theorem dX8_days_9 : decode cX8_days 9 = .ok (.ifCond .ne 5, 3) := by decide +kernel
theorem dX8_days_12 : decode cX8_days 12 = .ok (.iconst (-1), 1) := by decide +kernel
theorem dX8_days_13 : decode cX8_days 13 = .ok (.ireturn, 1) := by decide +kernel
theorem dX8_days_14 : decode cX8_days 14 = .ok (.aload_n 0, 1) := by decide +kernel
theorem dX8_days_15 : decode cX8_days 15 = .ok (.getfield 9, 3) := by decide +kernel
theorem dX8_days_18 : decode cX8_days 18 = .ok (.sipush 2521, 3) := by decide +kernel
theorem dX8_days_21 : decode cX8_days 21 = .ok (.laload, 1) := by decide +kernel
theorem dX8_days_22 : decode cX8_days 22 = .ok (.iload_n 1, 1) := by decide +kernel
theorem dX8_days_23 : decode cX8_days 23 = .ok (.i2l, 1) := by decide +kernel
theorem dX8_days_24 : decode cX8_days 24 = .ok (.ladd, 1) := by decide +kernel
theorem dX8_days_25 : decode cX8_days 25 = .ok (.ldc2_w 83, 3) := by decide +kernel
theorem dX8_days_28 : decode cX8_days 28 = .ok (.lcmp, 1) := by decide +kernel
theorem dX8_days_29 : decode cX8_days 29 = .ok (.ifCond .le 6, 3) := by decide +kernel
theorem dX8_days_32 : decode cX8_days 32 = .ok (.bipush (-5), 2) := by decide +kernel
theorem dX8_days_34 : decode cX8_days 34 = .ok (.ireturn, 1) := by decide +kernel
theorem dX8_days_35 : decode cX8_days 35 = .ok (.iconst 0, 1) := by decide +kernel
theorem dX8_days_36 : decode cX8_days 36 = .ok (.istore_n 2, 1) := by decide +kernel
theorem dX8_days_37 : decode cX8_days 37 = .ok (.iconst 0, 1) := by decide +kernel
theorem dX8_days_38 : decode cX8_days 38 = .ok (.istore_n 3, 1) := by decide +kernel
theorem dX8_days_39 : decode cX8_days 39 = .ok (.iload_n 3, 1) := by decide +kernel
theorem dX8_days_40 : decode cX8_days 40 = .ok (.iload_n 1, 1) := by decide +kernel
theorem dX8_days_41 : decode cX8_days 41 = .ok (.if_icmp .ge 140, 3) := by decide +kernel
theorem dX8_days_44 : decode cX8_days 44 = .ok (.aload_n 0, 1) := by decide +kernel
theorem dX8_days_45 : decode cX8_days 45 = .ok (.getfield 9, 3) := by decide +kernel
theorem dX8_days_48 : decode cX8_days 48 = .ok (.sipush 2521, 3) := by decide +kernel
theorem dX8_days_51 : decode cX8_days 51 = .ok (.dup2, 1) := by decide +kernel
theorem dX8_days_52 : decode cX8_days 52 = .ok (.laload, 1) := by decide +kernel
theorem dX8_days_53 : decode cX8_days 53 = .ok (.lconst 1, 1) := by decide +kernel
theorem dX8_days_54 : decode cX8_days 54 = .ok (.ladd, 1) := by decide +kernel
theorem dX8_days_55 : decode cX8_days 55 = .ok (.lastore, 1) := by decide +kernel
theorem dX8_days_56 : decode cX8_days 56 = .ok (.iconst 0, 1) := by decide +kernel
theorem dX8_days_57 : decode cX8_days 57 = .ok (.istore 4, 2) := by decide +kernel
theorem dX8_days_59 : decode cX8_days 59 = .ok (.iload 4, 2) := by decide +kernel
theorem dX8_days_61 : decode cX8_days 61 = .ok (.i2l, 1) := by decide +kernel
theorem dX8_days_62 : decode cX8_days 62 = .ok (.aload_n 0, 1) := by decide +kernel
theorem dX8_days_63 : decode cX8_days 63 = .ok (.getfield 9, 3) := by decide +kernel
theorem dX8_days_66 : decode cX8_days 66 = .ok (.sipush 2520, 3) := by decide +kernel
theorem dX8_days_69 : decode cX8_days 69 = .ok (.laload, 1) := by decide +kernel
theorem dX8_days_70 : decode cX8_days 70 = .ok (.lcmp, 1) := by decide +kernel
theorem dX8_days_71 : decode cX8_days 71 = .ok (.ifCond .ge 74, 3) := by decide +kernel
theorem dX8_days_74 : decode cX8_days 74 = .ok (.aload_n 0, 1) := by decide +kernel
theorem dX8_days_75 : decode cX8_days 75 = .ok (.iload 4, 2) := by decide +kernel
theorem dX8_days_77 : decode cX8_days 77 = .ok (.bipush 7, 2) := by decide +kernel
theorem dX8_days_79 : decode cX8_days 79 = .ok (.invokevirtual 136, 3) := by decide +kernel
theorem dX8_days_82 : decode cX8_days 82 = .ok (.l2i, 1) := by decide +kernel
theorem dX8_days_83 : decode cX8_days 83 = .ok (.istore 5, 2) := by decide +kernel
theorem dX8_days_85 : decode cX8_days 85 = .ok (.iload 5, 2) := by decide +kernel
theorem dX8_days_87 : decode cX8_days 87 = .ok (.i2l, 1) := by decide +kernel
theorem dX8_days_88 : decode cX8_days 88 = .ok (.aload_n 0, 1) := by decide +kernel
theorem dX8_days_89 : decode cX8_days 89 = .ok (.iload 4, 2) := by decide +kernel
theorem dX8_days_91 : decode cX8_days 91 = .ok (.iconst 4, 1) := by decide +kernel
theorem dX8_days_92 : decode cX8_days 92 = .ok (.invokevirtual 136, 3) := by decide +kernel
theorem dX8_days_95 : decode cX8_days 95 = .ok (.lcmp, 1) := by decide +kernel
theorem dX8_days_96 : decode cX8_days 96 = .ok (.ifCond .ge 43, 3) := by decide +kernel
theorem dX8_days_99 : decode cX8_days 99 = .ok (.aload_n 0, 1) := by decide +kernel
theorem dX8_days_100 : decode cX8_days 100 = .ok (.iload 4, 2) := by decide +kernel
theorem dX8_days_102 : decode cX8_days 102 = .ok (.iload 5, 2) := by decide +kernel
theorem dX8_days_104 : decode cX8_days 104 = .ok (.iconst 1, 1) := by decide +kernel
theorem dX8_days_105 : decode cX8_days 105 = .ok (.iadd, 1) := by decide +kernel
theorem dX8_days_106 : decode cX8_days 106 = .ok (.invokevirtual 143, 3) := by decide +kernel
theorem dX8_days_109 : decode cX8_days 109 = .ok (.i2l, 1) := by decide +kernel
theorem dX8_days_110 : decode cX8_days 110 = .ok (.aload_n 0, 1) := by decide +kernel
theorem dX8_days_111 : decode cX8_days 111 = .ok (.getfield 9, 3) := by decide +kernel
theorem dX8_days_114 : decode cX8_days 114 = .ok (.sipush 2521, 3) := by decide +kernel
theorem dX8_days_117 : decode cX8_days 117 = .ok (.laload, 1) := by decide +kernel
theorem dX8_days_118 : decode cX8_days 118 = .ok (.lcmp, 1) := by decide +kernel
theorem dX8_days_119 : decode cX8_days 119 = .ok (.ifCond .ne 20, 3) := by decide +kernel
theorem dX8_days_122 : decode cX8_days 122 = .ok (.iload_n 2, 1) := by decide +kernel
theorem dX8_days_123 : decode cX8_days 123 = .ok (.aload_n 0, 1) := by decide +kernel
theorem dX8_days_124 : decode cX8_days 124 = .ok (.iload 4, 2) := by decide +kernel
theorem dX8_days_126 : decode cX8_days 126 = .ok (.invokevirtual 181, 3) := by decide +kernel
theorem dX8_days_129 : decode cX8_days 129 = .ok (.ifCond .eq 7, 3) := by decide +kernel
theorem dX8_days_132 : decode cX8_days 132 = .ok (.iconst 1, 1) := by decide +kernel
theorem dX8_days_133 : decode cX8_days 133 = .ok (.goto 4, 3) := by decide +kernel
theorem dX8_days_136 : decode cX8_days 136 = .ok (.iconst 0, 1) := by decide +kernel
theorem dX8_days_137 : decode cX8_days 137 = .ok (.iadd, 1) := by decide +kernel
theorem dX8_days_138 : decode cX8_days 138 = .ok (.istore_n 2, 1) := by decide +kernel
theorem dX8_days_139 : decode cX8_days 139 = .ok (.iinc 4 1, 3) := by decide +kernel
theorem dX8_days_142 : decode cX8_days 142 = .ok (.goto (-83), 3) := by decide +kernel
theorem dX8_days_145 : decode cX8_days 145 = .ok (.iconst 0, 1) := by decide +kernel
theorem dX8_days_146 : decode cX8_days 146 = .ok (.istore 4, 2) := by decide +kernel
theorem dX8_days_148 : decode cX8_days 148 = .ok (.iload 4, 2) := by decide +kernel
theorem dX8_days_150 : decode cX8_days 150 = .ok (.i2l, 1) := by decide +kernel
theorem dX8_days_151 : decode cX8_days 151 = .ok (.aload_n 0, 1) := by decide +kernel
theorem dX8_days_152 : decode cX8_days 152 = .ok (.getfield 9, 3) := by decide +kernel
theorem dX8_days_155 : decode cX8_days 155 = .ok (.sipush 2520, 3) := by decide +kernel
theorem dX8_days_158 : decode cX8_days 158 = .ok (.laload, 1) := by decide +kernel
theorem dX8_days_159 : decode cX8_days 159 = .ok (.lcmp, 1) := by decide +kernel
theorem dX8_days_160 : decode cX8_days 160 = .ok (.ifCond .ge 15, 3) := by decide +kernel
end
section
theorem dX8_days_163 : decode cX8_days 163 = .ok (.aload_n 0, 1) := by decide +kernel
theorem dX8_days_164 : decode cX8_days 164 = .ok (.iload 4, 2) := by decide +kernel
theorem dX8_days_166 : decode cX8_days 166 = .ok (.invokevirtual 184, 3) := by decide +kernel
theorem dX8_days_169 : decode cX8_days 169 = .ok (.iinc 4 1, 3) := by decide +kernel
theorem dX8_days_172 : decode cX8_days 172 = .ok (.goto (-24), 3) := by decide +kernel
theorem dX8_days_175 : decode cX8_days 175 = .ok (.iinc 3 1, 3) := by decide +kernel
theorem dX8_days_178 : decode cX8_days 178 = .ok (.goto (-139), 3) := by decide +kernel
theorem dX8_days_181 : decode cX8_days 181 = .ok (.iload_n 2, 1) := by decide +kernel
theorem dX8_days_182 : decode cX8_days 182 = .ok (.ireturn, 1) := by decide +kernel
theorem dX8_paidOff_0 : decode cX8_paidOff 0 = .ok (.aload_n 0, 1) := by decide +kernel
theorem dX8_paidOff_1 : decode cX8_paidOff 1 = .ok (.iload_n 1, 1) := by decide +kernel
theorem dX8_paidOff_2 : decode cX8_paidOff 2 = .ok (.iload_n 2, 1) := by decide +kernel
theorem dX8_paidOff_3 : decode cX8_paidOff 3 = .ok (.invokevirtual 136, 3) := by decide +kernel
theorem dX8_paidOff_6 : decode cX8_paidOff 6 = .ok (.lload_n 3, 1) := by decide +kernel
theorem dX8_paidOff_7 : decode cX8_paidOff 7 = .ok (.lcmp, 1) := by decide +kernel
theorem dX8_paidOff_8 : decode cX8_paidOff 8 = .ok (.ifCond .ge 12, 3) := by decide +kernel
theorem dX8_paidOff_11 : decode cX8_paidOff 11 = .ok (.aload_n 0, 1) := by decide +kernel
theorem dX8_paidOff_12 : decode cX8_paidOff 12 = .ok (.iload_n 1, 1) := by decide +kernel
theorem dX8_paidOff_13 : decode cX8_paidOff 13 = .ok (.iload_n 2, 1) := by decide +kernel
theorem dX8_paidOff_14 : decode cX8_paidOff 14 = .ok (.invokevirtual 136, 3) := by decide +kernel
theorem dX8_paidOff_17 : decode cX8_paidOff 17 = .ok (.goto 4, 3) := by decide +kernel
theorem dX8_paidOff_20 : decode cX8_paidOff 20 = .ok (.lload_n 3, 1) := by decide +kernel
theorem dX8_paidOff_21 : decode cX8_paidOff 21 = .ok (.lstore 5, 2) := by decide +kernel
theorem dX8_paidOff_23 : decode cX8_paidOff 23 = .ok (.aload_n 0, 1) := by decide +kernel
theorem dX8_paidOff_24 : decode cX8_paidOff 24 = .ok (.iload_n 1, 1) := by decide +kernel
theorem dX8_paidOff_25 : decode cX8_paidOff 25 = .ok (.iload_n 2, 1) := by decide +kernel
theorem dX8_paidOff_26 : decode cX8_paidOff 26 = .ok (.aload_n 0, 1) := by decide +kernel
theorem dX8_paidOff_27 : decode cX8_paidOff 27 = .ok (.iload_n 1, 1) := by decide +kernel
theorem dX8_paidOff_28 : decode cX8_paidOff 28 = .ok (.iload_n 2, 1) := by decide +kernel
theorem dX8_paidOff_29 : decode cX8_paidOff 29 = .ok (.invokevirtual 136, 3) := by decide +kernel
theorem dX8_paidOff_32 : decode cX8_paidOff 32 = .ok (.lload 5, 2) := by decide +kernel
theorem dX8_paidOff_34 : decode cX8_paidOff 34 = .ok (.lsub, 1) := by decide +kernel
theorem dX8_paidOff_35 : decode cX8_paidOff 35 = .ok (.invokevirtual 160, 3) := by decide +kernel
theorem dX8_paidOff_38 : decode cX8_paidOff 38 = .ok (.lload 5, 2) := by decide +kernel
theorem dX8_paidOff_40 : decode cX8_paidOff 40 = .ok (.lreturn, 1) := by decide +kernel
theorem dX8_firstGoes_0 : decode cX8_firstGoes 0 = .ok (.aload_n 0, 1) := by decide +kernel
theorem dX8_firstGoes_1 : decode cX8_firstGoes 1 = .ok (.iload_n 1, 1) := by decide +kernel
theorem dX8_firstGoes_2 : decode cX8_firstGoes 2 = .ok (.bipush 14, 2) := by decide +kernel
theorem dX8_firstGoes_4 : decode cX8_firstGoes 4 = .ok (.invokevirtual 136, 3) := by decide +kernel
theorem dX8_firstGoes_7 : decode cX8_firstGoes 7 = .ok (.l2i, 1) := by decide +kernel
theorem dX8_firstGoes_8 : decode cX8_firstGoes 8 = .ok (.iconst 1, 1) := by decide +kernel
theorem dX8_firstGoes_9 : decode cX8_firstGoes 9 = .ok (.isub, 1) := by decide +kernel
theorem dX8_firstGoes_10 : decode cX8_firstGoes 10 = .ok (.istore_n 2, 1) := by decide +kernel
theorem dX8_firstGoes_11 : decode cX8_firstGoes 11 = .ok (.iconst 0, 1) := by decide +kernel
theorem dX8_firstGoes_12 : decode cX8_firstGoes 12 = .ok (.istore_n 3, 1) := by decide +kernel
theorem dX8_firstGoes_13 : decode cX8_firstGoes 13 = .ok (.iload_n 3, 1) := by decide +kernel
theorem dX8_firstGoes_14 : decode cX8_firstGoes 14 = .ok (.iconst 5, 1) := by decide +kernel
theorem dX8_firstGoes_15 : decode cX8_firstGoes 15 = .ok (.iload_n 2, 1) := by decide +kernel
theorem dX8_firstGoes_16 : decode cX8_firstGoes 16 = .ok (.imul, 1) := by decide +kernel
theorem dX8_firstGoes_17 : decode cX8_firstGoes 17 = .ok (.if_icmp .ge 29, 3) := by decide +kernel
theorem dX8_firstGoes_20 : decode cX8_firstGoes 20 = .ok (.aload_n 0, 1) := by decide +kernel
theorem dX8_firstGoes_21 : decode cX8_firstGoes 21 = .ok (.iload_n 1, 1) := by decide +kernel
theorem dX8_firstGoes_22 : decode cX8_firstGoes 22 = .ok (.bipush 15, 2) := by decide +kernel
theorem dX8_firstGoes_24 : decode cX8_firstGoes 24 = .ok (.iload_n 3, 1) := by decide +kernel
theorem dX8_firstGoes_25 : decode cX8_firstGoes 25 = .ok (.iadd, 1) := by decide +kernel
theorem dX8_firstGoes_26 : decode cX8_firstGoes 26 = .ok (.aload_n 0, 1) := by decide +kernel
theorem dX8_firstGoes_27 : decode cX8_firstGoes 27 = .ok (.iload_n 1, 1) := by decide +kernel
theorem dX8_firstGoes_28 : decode cX8_firstGoes 28 = .ok (.bipush 15, 2) := by decide +kernel
theorem dX8_firstGoes_30 : decode cX8_firstGoes 30 = .ok (.iload_n 3, 1) := by decide +kernel
theorem dX8_firstGoes_31 : decode cX8_firstGoes 31 = .ok (.iadd, 1) := by decide +kernel
theorem dX8_firstGoes_32 : decode cX8_firstGoes 32 = .ok (.iconst 5, 1) := by decide +kernel
theorem dX8_firstGoes_33 : decode cX8_firstGoes 33 = .ok (.iadd, 1) := by decide +kernel
theorem dX8_firstGoes_34 : decode cX8_firstGoes 34 = .ok (.invokevirtual 136, 3) := by decide +kernel
theorem dX8_firstGoes_37 : decode cX8_firstGoes 37 = .ok (.invokevirtual 160, 3) := by decide +kernel
theorem dX8_firstGoes_40 : decode cX8_firstGoes 40 = .ok (.iinc 3 1, 3) := by decide +kernel
theorem dX8_firstGoes_43 : decode cX8_firstGoes 43 = .ok (.goto (-30), 3) := by decide +kernel
theorem dX8_firstGoes_46 : decode cX8_firstGoes 46 = .ok (.aload_n 0, 1) := by decide +kernel
theorem dX8_firstGoes_47 : decode cX8_firstGoes 47 = .ok (.iload_n 1, 1) := by decide +kernel
theorem dX8_firstGoes_48 : decode cX8_firstGoes 48 = .ok (.bipush 14, 2) := by decide +kernel
theorem dX8_firstGoes_50 : decode cX8_firstGoes 50 = .ok (.iload_n 2, 1) := by decide +kernel
theorem dX8_firstGoes_51 : decode cX8_firstGoes 51 = .ok (.i2l, 1) := by decide +kernel
theorem dX8_firstGoes_52 : decode cX8_firstGoes 52 = .ok (.invokevirtual 160, 3) := by decide +kernel
theorem dX8_firstGoes_55 : decode cX8_firstGoes 55 = .ok (.return_, 1) := by decide +kernel
theorem dX8_pays_0 : decode cX8_pays 0 = .ok (.lload_n 2, 1) := by decide +kernel
theorem dX8_pays_1 : decode cX8_pays 1 = .ok (.lstore 4, 2) := by decide +kernel
theorem dX8_pays_3 : decode cX8_pays 3 = .ok (.iconst 0, 1) := by decide +kernel
theorem dX8_pays_4 : decode cX8_pays 4 = .ok (.istore 6, 2) := by decide +kernel
theorem dX8_pays_6 : decode cX8_pays 6 = .ok (.iload 6, 2) := by decide +kernel
theorem dX8_pays_8 : decode cX8_pays 8 = .ok (.bipush 6, 2) := by decide +kernel
theorem dX8_pays_10 : decode cX8_pays 10 = .ok (.if_icmp .ge 17, 3) := by decide +kernel
theorem dX8_pays_13 : decode cX8_pays 13 = .ok (.aload_n 0, 1) := by decide +kernel
theorem dX8_pays_14 : decode cX8_pays 14 = .ok (.getfield 35, 3) := by decide +kernel
theorem dX8_pays_17 : decode cX8_pays 17 = .ok (.iload 6, 2) := by decide +kernel
theorem dX8_pays_19 : decode cX8_pays 19 = .ok (.lconst 0, 1) := by decide +kernel
theorem dX8_pays_20 : decode cX8_pays 20 = .ok (.lastore, 1) := by decide +kernel
theorem dX8_pays_21 : decode cX8_pays 21 = .ok (.iinc 6 1, 3) := by decide +kernel
theorem dX8_pays_24 : decode cX8_pays 24 = .ok (.goto (-18), 3) := by decide +kernel
theorem dX8_pays_27 : decode cX8_pays 27 = .ok (.lload 4, 2) := by decide +kernel
theorem dX8_pays_29 : decode cX8_pays 29 = .ok (.lconst 0, 1) := by decide +kernel
theorem dX8_pays_30 : decode cX8_pays 30 = .ok (.lcmp, 1) := by decide +kernel
theorem dX8_pays_31 : decode cX8_pays 31 = .ok (.ifCond .le 94, 3) := by decide +kernel
theorem dX8_pays_34 : decode cX8_pays 34 = .ok (.aload_n 0, 1) := by decide +kernel
theorem dX8_pays_35 : decode cX8_pays 35 = .ok (.iload_n 1, 1) := by decide +kernel
theorem dX8_pays_36 : decode cX8_pays 36 = .ok (.bipush 14, 2) := by decide +kernel
theorem dX8_pays_38 : decode cX8_pays 38 = .ok (.invokevirtual 136, 3) := by decide +kernel
theorem dX8_pays_41 : decode cX8_pays 41 = .ok (.lconst 0, 1) := by decide +kernel
theorem dX8_pays_42 : decode cX8_pays 42 = .ok (.lcmp, 1) := by decide +kernel
theorem dX8_pays_43 : decode cX8_pays 43 = .ok (.ifCond .le 82, 3) := by decide +kernel
theorem dX8_pays_46 : decode cX8_pays 46 = .ok (.iconst 0, 1) := by decide +kernel
theorem dX8_pays_47 : decode cX8_pays 47 = .ok (.istore 6, 2) := by decide +kernel
theorem dX8_pays_49 : decode cX8_pays 49 = .ok (.iload 6, 2) := by decide +kernel
theorem dX8_pays_51 : decode cX8_pays 51 = .ok (.iconst 3, 1) := by decide +kernel
theorem dX8_pays_52 : decode cX8_pays 52 = .ok (.if_icmp .ge 51, 3) := by decide +kernel
theorem dX8_pays_55 : decode cX8_pays 55 = .ok (.aload_n 0, 1) := by decide +kernel
theorem dX8_pays_56 : decode cX8_pays 56 = .ok (.iload_n 1, 1) := by decide +kernel
theorem dX8_pays_57 : decode cX8_pays 57 = .ok (.bipush 15, 2) := by decide +kernel
theorem dX8_pays_59 : decode cX8_pays 59 = .ok (.iload 6, 2) := by decide +kernel
theorem dX8_pays_61 : decode cX8_pays 61 = .ok (.ifCond .ne 7, 3) := by decide +kernel
theorem dX8_pays_64 : decode cX8_pays 64 = .ok (.iconst 3, 1) := by decide +kernel
theorem dX8_pays_65 : decode cX8_pays 65 = .ok (.goto 5, 3) := by decide +kernel
theorem dX8_pays_68 : decode cX8_pays 68 = .ok (.iload 6, 2) := by decide +kernel
theorem dX8_pays_70 : decode cX8_pays 70 = .ok (.iadd, 1) := by decide +kernel
theorem dX8_pays_71 : decode cX8_pays 71 = .ok (.lload 4, 2) := by decide +kernel
theorem dX8_pays_73 : decode cX8_pays 73 = .ok (.invokevirtual 187, 3) := by decide +kernel
theorem dX8_pays_76 : decode cX8_pays 76 = .ok (.lstore 7, 2) := by decide +kernel
theorem dX8_pays_78 : decode cX8_pays 78 = .ok (.aload_n 0, 1) := by decide +kernel
theorem dX8_pays_79 : decode cX8_pays 79 = .ok (.getfield 35, 3) := by decide +kernel
theorem dX8_pays_82 : decode cX8_pays 82 = .ok (.iload 6, 2) := by decide +kernel
theorem dX8_pays_84 : decode cX8_pays 84 = .ok (.dup2, 1) := by decide +kernel
theorem dX8_pays_85 : decode cX8_pays 85 = .ok (.laload, 1) := by decide +kernel
theorem dX8_pays_86 : decode cX8_pays 86 = .ok (.lload 7, 2) := by decide +kernel
theorem dX8_pays_88 : decode cX8_pays 88 = .ok (.ladd, 1) := by decide +kernel
theorem dX8_pays_89 : decode cX8_pays 89 = .ok (.lastore, 1) := by decide +kernel
theorem dX8_pays_90 : decode cX8_pays 90 = .ok (.lload 4, 2) := by decide +kernel
theorem dX8_pays_92 : decode cX8_pays 92 = .ok (.lload 7, 2) := by decide +kernel
theorem dX8_pays_94 : decode cX8_pays 94 = .ok (.lsub, 1) := by decide +kernel
theorem dX8_pays_95 : decode cX8_pays 95 = .ok (.lstore 4, 2) := by decide +kernel
theorem dX8_pays_97 : decode cX8_pays 97 = .ok (.iinc 6 1, 3) := by decide +kernel
theorem dX8_pays_100 : decode cX8_pays 100 = .ok (.goto (-51), 3) := by decide +kernel
theorem dX8_pays_103 : decode cX8_pays 103 = .ok (.aload_n 0, 1) := by decide +kernel
theorem dX8_pays_104 : decode cX8_pays 104 = .ok (.iload_n 1, 1) := by decide +kernel
theorem dX8_pays_105 : decode cX8_pays 105 = .ok (.iconst 0, 1) := by decide +kernel
theorem dX8_pays_106 : decode cX8_pays 106 = .ok (.invokevirtual 191, 3) := by decide +kernel
theorem dX8_pays_109 : decode cX8_pays 109 = .ok (.lconst 0, 1) := by decide +kernel
theorem dX8_pays_110 : decode cX8_pays 110 = .ok (.lcmp, 1) := by decide +kernel
theorem dX8_pays_111 : decode cX8_pays 111 = .ok (.ifCond .le 6, 3) := by decide +kernel
theorem dX8_pays_114 : decode cX8_pays 114 = .ok (.goto 11, 3) := by decide +kernel
theorem dX8_pays_117 : decode cX8_pays 117 = .ok (.aload_n 0, 1) := by decide +kernel
theorem dX8_pays_118 : decode cX8_pays 118 = .ok (.iload_n 1, 1) := by decide +kernel
theorem dX8_pays_119 : decode cX8_pays 119 = .ok (.invokevirtual 194, 3) := by decide +kernel
theorem dX8_pays_122 : decode cX8_pays 122 = .ok (.goto (-95), 3) := by decide +kernel
theorem dX8_pays_125 : decode cX8_pays 125 = .ok (.aload_n 0, 1) := by decide +kernel
theorem dX8_pays_126 : decode cX8_pays 126 = .ok (.getfield 35, 3) := by decide +kernel
theorem dX8_pays_129 : decode cX8_pays 129 = .ok (.iconst 3, 1) := by decide +kernel
theorem dX8_pays_130 : decode cX8_pays 130 = .ok (.aload_n 0, 1) := by decide +kernel
theorem dX8_pays_131 : decode cX8_pays 131 = .ok (.iload_n 1, 1) := by decide +kernel
theorem dX8_pays_132 : decode cX8_pays 132 = .ok (.bipush 8, 2) := by decide +kernel
theorem dX8_pays_134 : decode cX8_pays 134 = .ok (.lload 4, 2) := by decide +kernel
theorem dX8_pays_136 : decode cX8_pays 136 = .ok (.invokevirtual 187, 3) := by decide +kernel
theorem dX8_pays_139 : decode cX8_pays 139 = .ok (.lastore, 1) := by decide +kernel
theorem dX8_pays_140 : decode cX8_pays 140 = .ok (.aload_n 0, 1) := by decide +kernel
theorem dX8_pays_141 : decode cX8_pays 141 = .ok (.getfield 35, 3) := by decide +kernel
theorem dX8_pays_144 : decode cX8_pays 144 = .ok (.iconst 4, 1) := by decide +kernel
theorem dX8_pays_145 : decode cX8_pays 145 = .ok (.lload 4, 2) := by decide +kernel
theorem dX8_pays_147 : decode cX8_pays 147 = .ok (.aload_n 0, 1) := by decide +kernel
theorem dX8_pays_148 : decode cX8_pays 148 = .ok (.getfield 35, 3) := by decide +kernel
theorem dX8_pays_151 : decode cX8_pays 151 = .ok (.iconst 3, 1) := by decide +kernel
theorem dX8_pays_152 : decode cX8_pays 152 = .ok (.laload, 1) := by decide +kernel
theorem dX8_pays_153 : decode cX8_pays 153 = .ok (.lsub, 1) := by decide +kernel
theorem dX8_pays_154 : decode cX8_pays 154 = .ok (.lastore, 1) := by decide +kernel
theorem dX8_pays_155 : decode cX8_pays 155 = .ok (.iconst 0, 1) := by decide +kernel
theorem dX8_pays_156 : decode cX8_pays 156 = .ok (.istore 6, 2) := by decide +kernel
theorem dX8_pays_158 : decode cX8_pays 158 = .ok (.iload 6, 2) := by decide +kernel
theorem dX8_pays_160 : decode cX8_pays 160 = .ok (.iconst 3, 1) := by decide +kernel
theorem dX8_pays_161 : decode cX8_pays 161 = .ok (.if_icmp .ge 37, 3) := by decide +kernel
theorem dX8_pays_164 : decode cX8_pays 164 = .ok (.aload_n 0, 1) := by decide +kernel
theorem dX8_pays_165 : decode cX8_pays 165 = .ok (.iload_n 1, 1) := by decide +kernel
theorem dX8_pays_166 : decode cX8_pays 166 = .ok (.bipush 10, 2) := by decide +kernel
theorem dX8_pays_168 : decode cX8_pays 168 = .ok (.iload 6, 2) := by decide +kernel
theorem dX8_pays_170 : decode cX8_pays 170 = .ok (.iadd, 1) := by decide +kernel
theorem dX8_pays_171 : decode cX8_pays 171 = .ok (.aload_n 0, 1) := by decide +kernel
theorem dX8_pays_172 : decode cX8_pays 172 = .ok (.iload_n 1, 1) := by decide +kernel
theorem dX8_pays_173 : decode cX8_pays 173 = .ok (.bipush 10, 2) := by decide +kernel
theorem dX8_pays_175 : decode cX8_pays 175 = .ok (.iload 6, 2) := by decide +kernel
theorem dX8_pays_177 : decode cX8_pays 177 = .ok (.iadd, 1) := by decide +kernel
theorem dX8_pays_178 : decode cX8_pays 178 = .ok (.invokevirtual 136, 3) := by decide +kernel
theorem dX8_pays_181 : decode cX8_pays 181 = .ok (.aload_n 0, 1) := by decide +kernel
theorem dX8_pays_182 : decode cX8_pays 182 = .ok (.getfield 35, 3) := by decide +kernel
theorem dX8_pays_185 : decode cX8_pays 185 = .ok (.iload 6, 2) := by decide +kernel
theorem dX8_pays_187 : decode cX8_pays 187 = .ok (.laload, 1) := by decide +kernel
theorem dX8_pays_188 : decode cX8_pays 188 = .ok (.ladd, 1) := by decide +kernel
theorem dX8_pays_189 : decode cX8_pays 189 = .ok (.invokevirtual 160, 3) := by decide +kernel
theorem dX8_pays_192 : decode cX8_pays 192 = .ok (.iinc 6 1, 3) := by decide +kernel
theorem dX8_pays_195 : decode cX8_pays 195 = .ok (.goto (-37), 3) := by decide +kernel
theorem dX8_pays_198 : decode cX8_pays 198 = .ok (.aload_n 0, 1) := by decide +kernel
theorem dX8_pays_199 : decode cX8_pays 199 = .ok (.iload_n 1, 1) := by decide +kernel
theorem dX8_pays_200 : decode cX8_pays 200 = .ok (.bipush 12, 2) := by decide +kernel
theorem dX8_pays_202 : decode cX8_pays 202 = .ok (.aload_n 0, 1) := by decide +kernel
theorem dX8_pays_203 : decode cX8_pays 203 = .ok (.iload_n 1, 1) := by decide +kernel
theorem dX8_pays_204 : decode cX8_pays 204 = .ok (.bipush 12, 2) := by decide +kernel
theorem dX8_pays_206 : decode cX8_pays 206 = .ok (.invokevirtual 136, 3) := by decide +kernel
theorem dX8_pays_209 : decode cX8_pays 209 = .ok (.aload_n 0, 1) := by decide +kernel
theorem dX8_pays_210 : decode cX8_pays 210 = .ok (.getfield 35, 3) := by decide +kernel
theorem dX8_pays_213 : decode cX8_pays 213 = .ok (.iconst 3, 1) := by decide +kernel
theorem dX8_pays_214 : decode cX8_pays 214 = .ok (.laload, 1) := by decide +kernel
theorem dX8_pays_215 : decode cX8_pays 215 = .ok (.ladd, 1) := by decide +kernel
theorem dX8_pays_216 : decode cX8_pays 216 = .ok (.invokevirtual 160, 3) := by decide +kernel
theorem dX8_pays_219 : decode cX8_pays 219 = .ok (.aload_n 0, 1) := by decide +kernel
theorem dX8_pays_220 : decode cX8_pays 220 = .ok (.getfield 35, 3) := by decide +kernel
theorem dX8_pays_223 : decode cX8_pays 223 = .ok (.iconst 3, 1) := by decide +kernel
theorem dX8_pays_224 : decode cX8_pays 224 = .ok (.laload, 1) := by decide +kernel
theorem dX8_pays_225 : decode cX8_pays 225 = .ok (.lconst 0, 1) := by decide +kernel
theorem dX8_pays_226 : decode cX8_pays 226 = .ok (.lcmp, 1) := by decide +kernel
theorem dX8_pays_227 : decode cX8_pays 227 = .ok (.ifCond .le 19, 3) := by decide +kernel
theorem dX8_pays_230 : decode cX8_pays 230 = .ok (.aload_n 0, 1) := by decide +kernel
theorem dX8_pays_231 : decode cX8_pays 231 = .ok (.iload_n 1, 1) := by decide +kernel
theorem dX8_pays_232 : decode cX8_pays 232 = .ok (.iconst 5, 1) := by decide +kernel
theorem dX8_pays_233 : decode cX8_pays 233 = .ok (.invokevirtual 136, 3) := by decide +kernel
theorem dX8_pays_236 : decode cX8_pays 236 = .ok (.lconst 1, 1) := by decide +kernel
theorem dX8_pays_237 : decode cX8_pays 237 = .ok (.lcmp, 1) := by decide +kernel
theorem dX8_pays_238 : decode cX8_pays 238 = .ok (.ifCond .ne 8, 3) := by decide +kernel
theorem dX8_pays_241 : decode cX8_pays 241 = .ok (.aload_n 0, 1) := by decide +kernel
theorem dX8_pays_242 : decode cX8_pays 242 = .ok (.iload_n 1, 1) := by decide +kernel
theorem dX8_pays_243 : decode cX8_pays 243 = .ok (.invokevirtual 171, 3) := by decide +kernel
theorem dX8_pays_246 : decode cX8_pays 246 = .ok (.aload_n 0, 1) := by decide +kernel
theorem dX8_pays_247 : decode cX8_pays 247 = .ok (.getfield 35, 3) := by decide +kernel
theorem dX8_pays_250 : decode cX8_pays 250 = .ok (.iconst 5, 1) := by decide +kernel
theorem dX8_pays_251 : decode cX8_pays 251 = .ok (.aload_n 0, 1) := by decide +kernel
theorem dX8_pays_252 : decode cX8_pays 252 = .ok (.iload_n 1, 1) := by decide +kernel
theorem dX8_pays_253 : decode cX8_pays 253 = .ok (.bipush 9, 2) := by decide +kernel
theorem dX8_pays_255 : decode cX8_pays 255 = .ok (.invokevirtual 136, 3) := by decide +kernel
theorem dX8_pays_258 : decode cX8_pays 258 = .ok (.lastore, 1) := by decide +kernel
theorem dX8_pays_259 : decode cX8_pays 259 = .ok (.return_, 1) := by decide +kernel
theorem dX8_asks_0 : decode cX8_asks 0 = .ok (.bipush 15, 2) := by decide +kernel
theorem dX8_asks_2 : decode cX8_asks 2 = .ok (.iconst 5, 1) := by decide +kernel
theorem dX8_asks_3 : decode cX8_asks 3 = .ok (.iload_n 2, 1) := by decide +kernel
theorem dX8_asks_4 : decode cX8_asks 4 = .ok (.imul, 1) := by decide +kernel
theorem dX8_asks_5 : decode cX8_asks 5 = .ok (.iadd, 1) := by decide +kernel
theorem dX8_asks_6 : decode cX8_asks 6 = .ok (.istore_n 3, 1) := by decide +kernel
theorem dX8_asks_7 : decode cX8_asks 7 = .ok (.aload_n 0, 1) := by decide +kernel
theorem dX8_asks_8 : decode cX8_asks 8 = .ok (.iload_n 1, 1) := by decide +kernel
theorem dX8_asks_9 : decode cX8_asks 9 = .ok (.iload_n 3, 1) := by decide +kernel
theorem dX8_asks_10 : decode cX8_asks 10 = .ok (.iconst 1, 1) := by decide +kernel
theorem dX8_asks_11 : decode cX8_asks 11 = .ok (.iadd, 1) := by decide +kernel
theorem dX8_asks_12 : decode cX8_asks 12 = .ok (.invokevirtual 136, 3) := by decide +kernel
theorem dX8_asks_15 : decode cX8_asks 15 = .ok (.aload_n 0, 1) := by decide +kernel
theorem dX8_asks_16 : decode cX8_asks 16 = .ok (.iload_n 1, 1) := by decide +kernel
theorem dX8_asks_17 : decode cX8_asks 17 = .ok (.iload_n 3, 1) := by decide +kernel
theorem dX8_asks_18 : decode cX8_asks 18 = .ok (.iconst 2, 1) := by decide +kernel
theorem dX8_asks_19 : decode cX8_asks 19 = .ok (.iadd, 1) := by decide +kernel
theorem dX8_asks_20 : decode cX8_asks 20 = .ok (.invokevirtual 136, 3) := by decide +kernel
theorem dX8_asks_23 : decode cX8_asks 23 = .ok (.ladd, 1) := by decide +kernel
theorem dX8_asks_24 : decode cX8_asks 24 = .ok (.aload_n 0, 1) := by decide +kernel
theorem dX8_asks_25 : decode cX8_asks 25 = .ok (.iload_n 1, 1) := by decide +kernel
theorem dX8_asks_26 : decode cX8_asks 26 = .ok (.iload_n 3, 1) := by decide +kernel
theorem dX8_asks_27 : decode cX8_asks 27 = .ok (.iconst 3, 1) := by decide +kernel
theorem dX8_asks_28 : decode cX8_asks 28 = .ok (.iadd, 1) := by decide +kernel
theorem dX8_asks_29 : decode cX8_asks 29 = .ok (.invokevirtual 136, 3) := by decide +kernel
theorem dX8_asks_32 : decode cX8_asks 32 = .ok (.ladd, 1) := by decide +kernel
theorem dX8_asks_33 : decode cX8_asks 33 = .ok (.lreturn, 1) := by decide +kernel
theorem dX8_isPaid_0 : decode cX8_isPaid 0 = .ok (.aload_n 0, 1) := by decide +kernel
theorem dX8_isPaid_1 : decode cX8_isPaid 1 = .ok (.iload_n 1, 1) := by decide +kernel
theorem dX8_isPaid_2 : decode cX8_isPaid 2 = .ok (.invokevirtual 197, 3) := by decide +kernel
theorem dX8_isPaid_5 : decode cX8_isPaid 5 = .ok (.ifCond .eq 18, 3) := by decide +kernel
theorem dX8_isPaid_8 : decode cX8_isPaid 8 = .ok (.lload_n 2, 1) := by decide +kernel
theorem dX8_isPaid_9 : decode cX8_isPaid 9 = .ok (.lconst 1, 1) := by decide +kernel
theorem dX8_isPaid_10 : decode cX8_isPaid 10 = .ok (.ldc2_w 200, 3) := by decide +kernel
theorem dX8_isPaid_13 : decode cX8_isPaid 13 = .ok (.invokestatic 85, 3) := by decide +kernel
theorem dX8_isPaid_16 : decode cX8_isPaid 16 = .ok (.ifCond .eq 7, 3) := by decide +kernel
theorem dX8_isPaid_19 : decode cX8_isPaid 19 = .ok (.iconst 1, 1) := by decide +kernel
theorem dX8_isPaid_20 : decode cX8_isPaid 20 = .ok (.goto 4, 3) := by decide +kernel
theorem dX8_isPaid_23 : decode cX8_isPaid 23 = .ok (.iconst 0, 1) := by decide +kernel
theorem dX8_isPaid_24 : decode cX8_isPaid 24 = .ok (.ireturn, 1) := by decide +kernel
theorem dX8_pay_0 : decode cX8_pay 0 = .ok (.aload_n 0, 1) := by decide +kernel
theorem dX8_pay_1 : decode cX8_pay 1 = .ok (.iload_n 1, 1) := by decide +kernel
theorem dX8_pay_2 : decode cX8_pay 2 = .ok (.lload_n 2, 1) := by decide +kernel
theorem dX8_pay_3 : decode cX8_pay 3 = .ok (.invokevirtual 202, 3) := by decide +kernel
theorem dX8_pay_6 : decode cX8_pay 6 = .ok (.ifCond .ne 7, 3) := by decide +kernel
theorem dX8_pay_9 : decode cX8_pay 9 = .ok (.ldc2_w 134, 3) := by decide +kernel
theorem dX8_pay_12 : decode cX8_pay 12 = .ok (.lreturn, 1) := by decide +kernel
theorem dX8_pay_13 : decode cX8_pay 13 = .ok (.aload_n 0, 1) := by decide +kernel
theorem dX8_pay_14 : decode cX8_pay 14 = .ok (.iload_n 1, 1) := by decide +kernel
theorem dX8_pay_15 : decode cX8_pay 15 = .ok (.lload_n 2, 1) := by decide +kernel
theorem dX8_pay_16 : decode cX8_pay 16 = .ok (.invokevirtual 205, 3) := by decide +kernel
theorem dX8_pay_19 : decode cX8_pay 19 = .ok (.aload_n 0, 1) := by decide +kernel
theorem dX8_pay_20 : decode cX8_pay 20 = .ok (.getfield 35, 3) := by decide +kernel
theorem dX8_pay_23 : decode cX8_pay 23 = .ok (.iconst 4, 1) := by decide +kernel
theorem dX8_pay_24 : decode cX8_pay 24 = .ok (.laload, 1) := by decide +kernel
theorem dX8_pay_25 : decode cX8_pay 25 = .ok (.lreturn, 1) := by decide +kernel
theorem dX8_reset_0 : decode cX8_reset 0 = .ok (.aload_n 0, 1) := by decide +kernel
theorem dX8_reset_1 : decode cX8_reset 1 = .ok (.iload_n 1, 1) := by decide +kernel
theorem dX8_reset_2 : decode cX8_reset 2 = .ok (.invokevirtual 197, 3) := by decide +kernel
theorem dX8_reset_5 : decode cX8_reset 5 = .ok (.ifCond .eq 15, 3) := by decide +kernel
theorem dX8_reset_8 : decode cX8_reset 8 = .ok (.iload_n 2, 1) := by decide +kernel
theorem dX8_reset_9 : decode cX8_reset 9 = .ok (.i2l, 1) := by decide +kernel
theorem dX8_reset_10 : decode cX8_reset 10 = .ok (.lconst 0, 1) := by decide +kernel
theorem dX8_reset_11 : decode cX8_reset 11 = .ok (.ldc2_w 128, 3) := by decide +kernel
theorem dX8_reset_14 : decode cX8_reset 14 = .ok (.invokestatic 85, 3) := by decide +kernel
theorem dX8_reset_17 : decode cX8_reset 17 = .ok (.ifCond .ne 7, 3) := by decide +kernel
theorem dX8_reset_20 : decode cX8_reset 20 = .ok (.ldc2_w 134, 3) := by decide +kernel
theorem dX8_reset_23 : decode cX8_reset 23 = .ok (.lreturn, 1) := by decide +kernel
theorem dX8_reset_24 : decode cX8_reset 24 = .ok (.aload_n 0, 1) := by decide +kernel
theorem dX8_reset_25 : decode cX8_reset 25 = .ok (.iload_n 1, 1) := by decide +kernel
theorem dX8_reset_26 : decode cX8_reset 26 = .ok (.iconst 1, 1) := by decide +kernel
theorem dX8_reset_27 : decode cX8_reset 27 = .ok (.iload_n 2, 1) := by decide +kernel
theorem dX8_reset_28 : decode cX8_reset 28 = .ok (.i2l, 1) := by decide +kernel
theorem dX8_reset_29 : decode cX8_reset 29 = .ok (.invokevirtual 160, 3) := by decide +kernel
theorem dX8_reset_32 : decode cX8_reset 32 = .ok (.aload_n 0, 1) := by decide +kernel
theorem dX8_reset_33 : decode cX8_reset 33 = .ok (.iload_n 1, 1) := by decide +kernel
theorem dX8_reset_34 : decode cX8_reset 34 = .ok (.invokevirtual 171, 3) := by decide +kernel
theorem dX8_reset_37 : decode cX8_reset 37 = .ok (.aload_n 0, 1) := by decide +kernel
theorem dX8_reset_38 : decode cX8_reset 38 = .ok (.iload_n 1, 1) := by decide +kernel
theorem dX8_reset_39 : decode cX8_reset 39 = .ok (.bipush 9, 2) := by decide +kernel
theorem dX8_reset_41 : decode cX8_reset 41 = .ok (.invokevirtual 136, 3) := by decide +kernel
theorem dX8_reset_44 : decode cX8_reset 44 = .ok (.lreturn, 1) := by decide +kernel
theorem dX8_writeOff_0 : decode cX8_writeOff 0 = .ok (.aload_n 0, 1) := by decide +kernel
theorem dX8_writeOff_1 : decode cX8_writeOff 1 = .ok (.iload_n 1, 1) := by decide +kernel
theorem dX8_writeOff_2 : decode cX8_writeOff 2 = .ok (.invokevirtual 197, 3) := by decide +kernel
theorem dX8_writeOff_5 : decode cX8_writeOff 5 = .ok (.ifCond .ne 7, 3) := by decide +kernel
theorem dX8_writeOff_8 : decode cX8_writeOff 8 = .ok (.ldc2_w 134, 3) := by decide +kernel
theorem dX8_writeOff_11 : decode cX8_writeOff 11 = .ok (.lreturn, 1) := by decide +kernel
theorem dX8_writeOff_12 : decode cX8_writeOff 12 = .ok (.aload_n 0, 1) := by decide +kernel
theorem dX8_writeOff_13 : decode cX8_writeOff 13 = .ok (.iload_n 1, 1) := by decide +kernel
theorem dX8_writeOff_14 : decode cX8_writeOff 14 = .ok (.bipush 8, 2) := by decide +kernel
theorem dX8_writeOff_16 : decode cX8_writeOff 16 = .ok (.invokevirtual 136, 3) := by decide +kernel
theorem dX8_writeOff_19 : decode cX8_writeOff 19 = .ok (.lconst 0, 1) := by decide +kernel
theorem dX8_writeOff_20 : decode cX8_writeOff 20 = .ok (.lcmp, 1) := by decide +kernel
theorem dX8_writeOff_21 : decode cX8_writeOff 21 = .ok (.ifCond .ne 19, 3) := by decide +kernel
theorem dX8_writeOff_24 : decode cX8_writeOff 24 = .ok (.aload_n 0, 1) := by decide +kernel
theorem dX8_writeOff_25 : decode cX8_writeOff 25 = .ok (.iload_n 1, 1) := by decide +kernel
theorem dX8_writeOff_26 : decode cX8_writeOff 26 = .ok (.bipush 14, 2) := by decide +kernel
theorem dX8_writeOff_28 : decode cX8_writeOff 28 = .ok (.invokevirtual 136, 3) := by decide +kernel
theorem dX8_writeOff_31 : decode cX8_writeOff 31 = .ok (.lconst 0, 1) := by decide +kernel
theorem dX8_writeOff_32 : decode cX8_writeOff 32 = .ok (.lcmp, 1) := by decide +kernel
theorem dX8_writeOff_33 : decode cX8_writeOff 33 = .ok (.ifCond .ne 7, 3) := by decide +kernel
theorem dX8_writeOff_36 : decode cX8_writeOff 36 = .ok (.ldc2_w 209, 3) := by decide +kernel
theorem dX8_writeOff_39 : decode cX8_writeOff 39 = .ok (.lreturn, 1) := by decide +kernel
theorem dX8_writeOff_40 : decode cX8_writeOff 40 = .ok (.aload_n 0, 1) := by decide +kernel
theorem dX8_writeOff_41 : decode cX8_writeOff 41 = .ok (.iload_n 1, 1) := by decide +kernel
theorem dX8_writeOff_42 : decode cX8_writeOff 42 = .ok (.bipush 8, 2) := by decide +kernel
theorem dX8_writeOff_44 : decode cX8_writeOff 44 = .ok (.invokevirtual 136, 3) := by decide +kernel
theorem dX8_writeOff_47 : decode cX8_writeOff 47 = .ok (.lstore_n 2, 1) := by decide +kernel
theorem dX8_writeOff_48 : decode cX8_writeOff 48 = .ok (.iconst 0, 1) := by decide +kernel
theorem dX8_writeOff_49 : decode cX8_writeOff 49 = .ok (.istore 4, 2) := by decide +kernel
theorem dX8_writeOff_51 : decode cX8_writeOff 51 = .ok (.iload 4, 2) := by decide +kernel
theorem dX8_writeOff_53 : decode cX8_writeOff 53 = .ok (.i2l, 1) := by decide +kernel
theorem dX8_writeOff_54 : decode cX8_writeOff 54 = .ok (.aload_n 0, 1) := by decide +kernel
theorem dX8_writeOff_55 : decode cX8_writeOff 55 = .ok (.iload_n 1, 1) := by decide +kernel
theorem dX8_writeOff_56 : decode cX8_writeOff 56 = .ok (.bipush 14, 2) := by decide +kernel
theorem dX8_writeOff_58 : decode cX8_writeOff 58 = .ok (.invokevirtual 136, 3) := by decide +kernel
theorem dX8_writeOff_61 : decode cX8_writeOff 61 = .ok (.lcmp, 1) := by decide +kernel
theorem dX8_writeOff_62 : decode cX8_writeOff 62 = .ok (.ifCond .ge 26, 3) := by decide +kernel
theorem dX8_writeOff_65 : decode cX8_writeOff 65 = .ok (.lload_n 2, 1) := by decide +kernel
theorem dX8_writeOff_66 : decode cX8_writeOff 66 = .ok (.aload_n 0, 1) := by decide +kernel
theorem dX8_writeOff_67 : decode cX8_writeOff 67 = .ok (.iload_n 1, 1) := by decide +kernel
theorem dX8_writeOff_68 : decode cX8_writeOff 68 = .ok (.bipush 15, 2) := by decide +kernel
theorem dX8_writeOff_70 : decode cX8_writeOff 70 = .ok (.iconst 5, 1) := by decide +kernel
theorem dX8_writeOff_71 : decode cX8_writeOff 71 = .ok (.iload 4, 2) := by decide +kernel
theorem dX8_writeOff_73 : decode cX8_writeOff 73 = .ok (.imul, 1) := by decide +kernel
theorem dX8_writeOff_74 : decode cX8_writeOff 74 = .ok (.iadd, 1) := by decide +kernel
theorem dX8_writeOff_75 : decode cX8_writeOff 75 = .ok (.iconst 2, 1) := by decide +kernel
theorem dX8_writeOff_76 : decode cX8_writeOff 76 = .ok (.iadd, 1) := by decide +kernel
theorem dX8_writeOff_77 : decode cX8_writeOff 77 = .ok (.invokevirtual 136, 3) := by decide +kernel
theorem dX8_writeOff_80 : decode cX8_writeOff 80 = .ok (.ladd, 1) := by decide +kernel
theorem dX8_writeOff_81 : decode cX8_writeOff 81 = .ok (.lstore_n 2, 1) := by decide +kernel
theorem dX8_writeOff_82 : decode cX8_writeOff 82 = .ok (.iinc 4 1, 3) := by decide +kernel
theorem dX8_writeOff_85 : decode cX8_writeOff 85 = .ok (.goto (-34), 3) := by decide +kernel
theorem dX8_writeOff_88 : decode cX8_writeOff 88 = .ok (.aload_n 0, 1) := by decide +kernel
theorem dX8_writeOff_89 : decode cX8_writeOff 89 = .ok (.iload_n 1, 1) := by decide +kernel
theorem dX8_writeOff_90 : decode cX8_writeOff 90 = .ok (.bipush 8, 2) := by decide +kernel
theorem dX8_writeOff_92 : decode cX8_writeOff 92 = .ok (.lconst 0, 1) := by decide +kernel
theorem dX8_writeOff_93 : decode cX8_writeOff 93 = .ok (.invokevirtual 160, 3) := by decide +kernel
theorem dX8_writeOff_96 : decode cX8_writeOff 96 = .ok (.aload_n 0, 1) := by decide +kernel
theorem dX8_writeOff_97 : decode cX8_writeOff 97 = .ok (.iload_n 1, 1) := by decide +kernel
theorem dX8_writeOff_98 : decode cX8_writeOff 98 = .ok (.bipush 14, 2) := by decide +kernel
theorem dX8_writeOff_100 : decode cX8_writeOff 100 = .ok (.lconst 0, 1) := by decide +kernel
theorem dX8_writeOff_101 : decode cX8_writeOff 101 = .ok (.invokevirtual 160, 3) := by decide +kernel
theorem dX8_writeOff_104 : decode cX8_writeOff 104 = .ok (.aload_n 0, 1) := by decide +kernel
theorem dX8_writeOff_105 : decode cX8_writeOff 105 = .ok (.iload_n 1, 1) := by decide +kernel
theorem dX8_writeOff_106 : decode cX8_writeOff 106 = .ok (.bipush 13, 2) := by decide +kernel
theorem dX8_writeOff_108 : decode cX8_writeOff 108 = .ok (.aload_n 0, 1) := by decide +kernel
theorem dX8_writeOff_109 : decode cX8_writeOff 109 = .ok (.iload_n 1, 1) := by decide +kernel
theorem dX8_writeOff_110 : decode cX8_writeOff 110 = .ok (.bipush 13, 2) := by decide +kernel
theorem dX8_writeOff_112 : decode cX8_writeOff 112 = .ok (.invokevirtual 136, 3) := by decide +kernel
theorem dX8_writeOff_115 : decode cX8_writeOff 115 = .ok (.lload_n 2, 1) := by decide +kernel
theorem dX8_writeOff_116 : decode cX8_writeOff 116 = .ok (.ladd, 1) := by decide +kernel
theorem dX8_writeOff_117 : decode cX8_writeOff 117 = .ok (.invokevirtual 160, 3) := by decide +kernel
theorem dX8_writeOff_120 : decode cX8_writeOff 120 = .ok (.lload_n 2, 1) := by decide +kernel
theorem dX8_writeOff_121 : decode cX8_writeOff 121 = .ok (.lreturn, 1) := by decide +kernel
theorem dX8_rule_0 : decode cX8_rule 0 = .ok (.iload_n 1, 1) := by decide +kernel
theorem dX8_rule_1 : decode cX8_rule 1 = .ok (.i2l, 1) := by decide +kernel
theorem dX8_rule_2 : decode cX8_rule 2 = .ok (.lconst 0, 1) := by decide +kernel
theorem dX8_rule_3 : decode cX8_rule 3 = .ok (.lconst 1, 1) := by decide +kernel
theorem dX8_rule_4 : decode cX8_rule 4 = .ok (.invokestatic 85, 3) := by decide +kernel
theorem dX8_rule_7 : decode cX8_rule 7 = .ok (.ifCond .eq 25, 3) := by decide +kernel
theorem dX8_rule_10 : decode cX8_rule 10 = .ok (.iload_n 2, 1) := by decide +kernel
theorem dX8_rule_11 : decode cX8_rule 11 = .ok (.i2l, 1) := by decide +kernel
theorem dX8_rule_12 : decode cX8_rule 12 = .ok (.lconst 0, 1) := by decide +kernel
theorem dX8_rule_13 : decode cX8_rule 13 = .ok (.iload_n 1, 1) := by decide +kernel
theorem dX8_rule_14 : decode cX8_rule 14 = .ok (.ifCond .ne 9, 3) := by decide +kernel
theorem dX8_rule_17 : decode cX8_rule 17 = .ok (.ldc2_w 211, 3) := by decide +kernel
theorem dX8_rule_20 : decode cX8_rule 20 = .ok (.goto 6, 3) := by decide +kernel
theorem dX8_rule_23 : decode cX8_rule 23 = .ok (.ldc2_w 122, 3) := by decide +kernel
theorem dX8_rule_26 : decode cX8_rule 26 = .ok (.invokestatic 85, 3) := by decide +kernel
theorem dX8_rule_29 : decode cX8_rule 29 = .ok (.ifCond .ne 5, 3) := by decide +kernel
theorem dX8_rule_32 : decode cX8_rule 32 = .ok (.iconst (-1), 1) := by decide +kernel
theorem dX8_rule_33 : decode cX8_rule 33 = .ok (.ireturn, 1) := by decide +kernel
theorem dX8_rule_34 : decode cX8_rule 34 = .ok (.aload_n 0, 1) := by decide +kernel
theorem dX8_rule_35 : decode cX8_rule 35 = .ok (.getfield 9, 3) := by decide +kernel
theorem dX8_rule_38 : decode cX8_rule 38 = .ok (.sipush 2522, 3) := by decide +kernel
theorem dX8_rule_41 : decode cX8_rule 41 = .ok (.iload_n 1, 1) := by decide +kernel
theorem dX8_rule_42 : decode cX8_rule 42 = .ok (.iadd, 1) := by decide +kernel
theorem dX8_rule_43 : decode cX8_rule 43 = .ok (.laload, 1) := by decide +kernel
theorem dX8_rule_44 : decode cX8_rule 44 = .ok (.l2i, 1) := by decide +kernel
theorem dX8_rule_45 : decode cX8_rule 45 = .ok (.istore_n 3, 1) := by decide +kernel
theorem dX8_rule_46 : decode cX8_rule 46 = .ok (.aload_n 0, 1) := by decide +kernel
theorem dX8_rule_47 : decode cX8_rule 47 = .ok (.getfield 9, 3) := by decide +kernel
theorem dX8_rule_50 : decode cX8_rule 50 = .ok (.sipush 2522, 3) := by decide +kernel
theorem dX8_rule_53 : decode cX8_rule 53 = .ok (.iload_n 1, 1) := by decide +kernel
theorem dX8_rule_54 : decode cX8_rule 54 = .ok (.iadd, 1) := by decide +kernel
theorem dX8_rule_55 : decode cX8_rule 55 = .ok (.iload_n 2, 1) := by decide +kernel
theorem dX8_rule_56 : decode cX8_rule 56 = .ok (.i2l, 1) := by decide +kernel
theorem dX8_rule_57 : decode cX8_rule 57 = .ok (.lastore, 1) := by decide +kernel
theorem dX8_rule_58 : decode cX8_rule 58 = .ok (.iload_n 3, 1) := by decide +kernel
theorem dX8_rule_59 : decode cX8_rule 59 = .ok (.ireturn, 1) := by decide +kernel
theorem dX8_of_0 : decode cX8_of 0 = .ok (.aload_n 0, 1) := by decide +kernel
theorem dX8_of_1 : decode cX8_of 1 = .ok (.iload_n 1, 1) := by decide +kernel
theorem dX8_of_2 : decode cX8_of 2 = .ok (.invokevirtual 197, 3) := by decide +kernel
theorem dX8_of_5 : decode cX8_of 5 = .ok (.ifCond .eq 15, 3) := by decide +kernel
theorem dX8_of_8 : decode cX8_of 8 = .ok (.iload_n 2, 1) := by decide +kernel
theorem dX8_of_9 : decode cX8_of 9 = .ok (.i2l, 1) := by decide +kernel
theorem dX8_of_10 : decode cX8_of 10 = .ok (.lconst 0, 1) := by decide +kernel
theorem dX8_of_11 : decode cX8_of 11 = .ok (.ldc2_w 213, 3) := by decide +kernel
theorem dX8_of_14 : decode cX8_of 14 = .ok (.invokestatic 85, 3) := by decide +kernel
theorem dX8_of_17 : decode cX8_of 17 = .ok (.ifCond .ne 5, 3) := by decide +kernel
theorem dX8_of_20 : decode cX8_of 20 = .ok (.iconst (-1), 1) := by decide +kernel
theorem dX8_of_21 : decode cX8_of 21 = .ok (.ireturn, 1) := by decide +kernel
theorem dX8_of_22 : decode cX8_of 22 = .ok (.aload_n 0, 1) := by decide +kernel
theorem dX8_of_23 : decode cX8_of 23 = .ok (.iload_n 1, 1) := by decide +kernel
theorem dX8_of_24 : decode cX8_of 24 = .ok (.bipush 14, 2) := by decide +kernel
theorem dX8_of_26 : decode cX8_of 26 = .ok (.invokevirtual 136, 3) := by decide +kernel
theorem dX8_of_29 : decode cX8_of 29 = .ok (.l2i, 1) := by decide +kernel
theorem dX8_of_30 : decode cX8_of 30 = .ok (.istore_n 3, 1) := by decide +kernel
theorem dX8_of_31 : decode cX8_of 31 = .ok (.aload_n 0, 1) := by decide +kernel
theorem dX8_of_32 : decode cX8_of 32 = .ok (.iload_n 1, 1) := by decide +kernel
theorem dX8_of_33 : decode cX8_of 33 = .ok (.bipush 7, 2) := by decide +kernel
theorem dX8_of_35 : decode cX8_of 35 = .ok (.invokevirtual 136, 3) := by decide +kernel
theorem dX8_of_38 : decode cX8_of 38 = .ok (.l2i, 1) := by decide +kernel
theorem dX8_of_39 : decode cX8_of 39 = .ok (.istore 4, 2) := by decide +kernel
theorem dX8_of_41 : decode cX8_of 41 = .ok (.iload_n 2, 1) := by decide +kernel
theorem dX8_of_42 : decode cX8_of 42 = .ok (.tableswitch 130 0 8 #[50, 58, 66, 74, 82, 90, 99, 102, 104], 50) := by decide +kernel
theorem dX8_of_92 : decode cX8_of 92 = .ok (.aload_n 0, 1) := by decide +kernel
theorem dX8_of_93 : decode cX8_of 93 = .ok (.iload_n 1, 1) := by decide +kernel
theorem dX8_of_94 : decode cX8_of 94 = .ok (.iconst 1, 1) := by decide +kernel
theorem dX8_of_95 : decode cX8_of 95 = .ok (.invokevirtual 136, 3) := by decide +kernel
theorem dX8_of_98 : decode cX8_of 98 = .ok (.l2i, 1) := by decide +kernel
theorem dX8_of_99 : decode cX8_of 99 = .ok (.ireturn, 1) := by decide +kernel
theorem dX8_of_100 : decode cX8_of 100 = .ok (.aload_n 0, 1) := by decide +kernel
theorem dX8_of_101 : decode cX8_of 101 = .ok (.iload_n 1, 1) := by decide +kernel
theorem dX8_of_102 : decode cX8_of 102 = .ok (.iconst 2, 1) := by decide +kernel
theorem dX8_of_103 : decode cX8_of 103 = .ok (.invokevirtual 136, 3) := by decide +kernel
theorem dX8_of_106 : decode cX8_of 106 = .ok (.l2i, 1) := by decide +kernel
theorem dX8_of_107 : decode cX8_of 107 = .ok (.ireturn, 1) := by decide +kernel
theorem dX8_of_108 : decode cX8_of 108 = .ok (.aload_n 0, 1) := by decide +kernel
theorem dX8_of_109 : decode cX8_of 109 = .ok (.iload_n 1, 1) := by decide +kernel
theorem dX8_of_110 : decode cX8_of 110 = .ok (.iconst 3, 1) := by decide +kernel
theorem dX8_of_111 : decode cX8_of 111 = .ok (.invokevirtual 136, 3) := by decide +kernel
theorem dX8_of_114 : decode cX8_of 114 = .ok (.l2i, 1) := by decide +kernel
theorem dX8_of_115 : decode cX8_of 115 = .ok (.ireturn, 1) := by decide +kernel
theorem dX8_of_116 : decode cX8_of 116 = .ok (.aload_n 0, 1) := by decide +kernel
theorem dX8_of_117 : decode cX8_of 117 = .ok (.iload_n 1, 1) := by decide +kernel
theorem dX8_of_118 : decode cX8_of 118 = .ok (.iconst 4, 1) := by decide +kernel
theorem dX8_of_119 : decode cX8_of 119 = .ok (.invokevirtual 136, 3) := by decide +kernel
theorem dX8_of_122 : decode cX8_of 122 = .ok (.l2i, 1) := by decide +kernel
theorem dX8_of_123 : decode cX8_of 123 = .ok (.ireturn, 1) := by decide +kernel
theorem dX8_of_124 : decode cX8_of 124 = .ok (.aload_n 0, 1) := by decide +kernel
theorem dX8_of_125 : decode cX8_of 125 = .ok (.iload_n 1, 1) := by decide +kernel
theorem dX8_of_126 : decode cX8_of 126 = .ok (.iconst 5, 1) := by decide +kernel
theorem dX8_of_127 : decode cX8_of 127 = .ok (.invokevirtual 136, 3) := by decide +kernel
theorem dX8_of_130 : decode cX8_of 130 = .ok (.l2i, 1) := by decide +kernel
theorem dX8_of_131 : decode cX8_of 131 = .ok (.ireturn, 1) := by decide +kernel
theorem dX8_of_132 : decode cX8_of 132 = .ok (.aload_n 0, 1) := by decide +kernel
theorem dX8_of_133 : decode cX8_of 133 = .ok (.iload_n 1, 1) := by decide +kernel
theorem dX8_of_134 : decode cX8_of 134 = .ok (.bipush 6, 2) := by decide +kernel
theorem dX8_of_136 : decode cX8_of 136 = .ok (.invokevirtual 136, 3) := by decide +kernel
theorem dX8_of_139 : decode cX8_of 139 = .ok (.l2i, 1) := by decide +kernel
theorem dX8_of_140 : decode cX8_of 140 = .ok (.ireturn, 1) := by decide +kernel
theorem dX8_of_141 : decode cX8_of 141 = .ok (.iload 4, 2) := by decide +kernel
theorem dX8_of_143 : decode cX8_of 143 = .ok (.ireturn, 1) := by decide +kernel
theorem dX8_of_144 : decode cX8_of 144 = .ok (.iload_n 3, 1) := by decide +kernel
theorem dX8_of_145 : decode cX8_of 145 = .ok (.ireturn, 1) := by decide +kernel
theorem dX8_of_146 : decode cX8_of 146 = .ok (.iload_n 3, 1) := by decide +kernel
theorem dX8_of_147 : decode cX8_of 147 = .ok (.ifCond .ne 7, 3) := by decide +kernel
theorem dX8_of_150 : decode cX8_of 150 = .ok (.iconst 0, 1) := by decide +kernel
theorem dX8_of_151 : decode cX8_of 151 = .ok (.goto 20, 3) := by decide +kernel
theorem dX8_of_154 : decode cX8_of 154 = .ok (.aload_n 0, 1) := by decide +kernel
theorem dX8_of_155 : decode cX8_of 155 = .ok (.getfield 9, 3) := by decide +kernel
theorem dX8_of_158 : decode cX8_of 158 = .ok (.sipush 2521, 3) := by decide +kernel
theorem dX8_of_161 : decode cX8_of 161 = .ok (.laload, 1) := by decide +kernel
theorem dX8_of_162 : decode cX8_of 162 = .ok (.aload_n 0, 1) := by decide +kernel
theorem dX8_of_163 : decode cX8_of 163 = .ok (.iload_n 1, 1) := by decide +kernel
theorem dX8_of_164 : decode cX8_of 164 = .ok (.bipush 15, 2) := by decide +kernel
theorem dX8_of_166 : decode cX8_of 166 = .ok (.invokevirtual 136, 3) := by decide +kernel
theorem dX8_of_169 : decode cX8_of 169 = .ok (.lsub, 1) := by decide +kernel
theorem dX8_of_170 : decode cX8_of 170 = .ok (.l2i, 1) := by decide +kernel
theorem dX8_of_171 : decode cX8_of 171 = .ok (.ireturn, 1) := by decide +kernel
theorem dX8_of_172 : decode cX8_of 172 = .ok (.iload 4, 2) := by decide +kernel
theorem dX8_of_174 : decode cX8_of 174 = .ok (.i2l, 1) := by decide +kernel
theorem dX8_of_175 : decode cX8_of 175 = .ok (.aload_n 0, 1) := by decide +kernel
theorem dX8_of_176 : decode cX8_of 176 = .ok (.iload_n 1, 1) := by decide +kernel
theorem dX8_of_177 : decode cX8_of 177 = .ok (.iconst 4, 1) := by decide +kernel
theorem dX8_of_178 : decode cX8_of 178 = .ok (.invokevirtual 136, 3) := by decide +kernel
theorem dX8_of_181 : decode cX8_of 181 = .ok (.lcmp, 1) := by decide +kernel
theorem dX8_of_182 : decode cX8_of 182 = .ok (.ifCond .ne 8, 3) := by decide +kernel
theorem dX8_of_185 : decode cX8_of 185 = .ok (.bipush (-2), 2) := by decide +kernel
theorem dX8_of_187 : decode cX8_of 187 = .ok (.goto 12, 3) := by decide +kernel
theorem dX8_of_190 : decode cX8_of 190 = .ok (.aload_n 0, 1) := by decide +kernel
theorem dX8_of_191 : decode cX8_of 191 = .ok (.iload_n 1, 1) := by decide +kernel
theorem dX8_of_192 : decode cX8_of 192 = .ok (.iload 4, 2) := by decide +kernel
theorem dX8_of_194 : decode cX8_of 194 = .ok (.iconst 1, 1) := by decide +kernel
theorem dX8_of_195 : decode cX8_of 195 = .ok (.iadd, 1) := by decide +kernel
theorem dX8_of_196 : decode cX8_of 196 = .ok (.invokevirtual 143, 3) := by decide +kernel
theorem dX8_of_199 : decode cX8_of 199 = .ok (.ireturn, 1) := by decide +kernel
theorem dX8_owed_0 : decode cX8_owed 0 = .ok (.lconst 0, 1) := by decide +kernel
theorem dX8_owed_1 : decode cX8_owed 1 = .ok (.lstore_n 2, 1) := by decide +kernel
theorem dX8_owed_2 : decode cX8_owed 2 = .ok (.iconst 0, 1) := by decide +kernel
theorem dX8_owed_3 : decode cX8_owed 3 = .ok (.istore 4, 2) := by decide +kernel
theorem dX8_owed_5 : decode cX8_owed 5 = .ok (.iload 4, 2) := by decide +kernel
theorem dX8_owed_7 : decode cX8_owed 7 = .ok (.i2l, 1) := by decide +kernel
theorem dX8_owed_8 : decode cX8_owed 8 = .ok (.aload_n 0, 1) := by decide +kernel
theorem dX8_owed_9 : decode cX8_owed 9 = .ok (.iload_n 1, 1) := by decide +kernel
theorem dX8_owed_10 : decode cX8_owed 10 = .ok (.bipush 14, 2) := by decide +kernel
theorem dX8_owed_12 : decode cX8_owed 12 = .ok (.invokevirtual 136, 3) := by decide +kernel
theorem dX8_owed_15 : decode cX8_owed 15 = .ok (.lcmp, 1) := by decide +kernel
theorem dX8_owed_16 : decode cX8_owed 16 = .ok (.ifCond .ge 19, 3) := by decide +kernel
theorem dX8_owed_19 : decode cX8_owed 19 = .ok (.lload_n 2, 1) := by decide +kernel
theorem dX8_owed_20 : decode cX8_owed 20 = .ok (.aload_n 0, 1) := by decide +kernel
theorem dX8_owed_21 : decode cX8_owed 21 = .ok (.iload_n 1, 1) := by decide +kernel
theorem dX8_owed_22 : decode cX8_owed 22 = .ok (.iload 4, 2) := by decide +kernel
theorem dX8_owed_24 : decode cX8_owed 24 = .ok (.invokevirtual 191, 3) := by decide +kernel
theorem dX8_owed_27 : decode cX8_owed 27 = .ok (.ladd, 1) := by decide +kernel
theorem dX8_owed_28 : decode cX8_owed 28 = .ok (.lstore_n 2, 1) := by decide +kernel
theorem dX8_owed_29 : decode cX8_owed 29 = .ok (.iinc 4 1, 3) := by decide +kernel
theorem dX8_owed_32 : decode cX8_owed 32 = .ok (.goto (-27), 3) := by decide +kernel
theorem dX8_owed_35 : decode cX8_owed 35 = .ok (.lload_n 2, 1) := by decide +kernel
theorem dX8_owed_36 : decode cX8_owed 36 = .ok (.lreturn, 1) := by decide +kernel
theorem dX8_sum_0 : decode cX8_sum 0 = .ok (.aload_n 0, 1) := by decide +kernel
theorem dX8_sum_1 : decode cX8_sum 1 = .ok (.iload_n 1, 1) := by decide +kernel
theorem dX8_sum_2 : decode cX8_sum 2 = .ok (.invokevirtual 197, 3) := by decide +kernel
theorem dX8_sum_5 : decode cX8_sum 5 = .ok (.ifCond .eq 15, 3) := by decide +kernel
theorem dX8_sum_8 : decode cX8_sum 8 = .ok (.iload_n 2, 1) := by decide +kernel
theorem dX8_sum_9 : decode cX8_sum 9 = .ok (.i2l, 1) := by decide +kernel
theorem dX8_sum_10 : decode cX8_sum 10 = .ok (.lconst 0, 1) := by decide +kernel
theorem dX8_sum_11 : decode cX8_sum 11 = .ok (.ldc2_w 169, 3) := by decide +kernel
theorem dX8_sum_14 : decode cX8_sum 14 = .ok (.invokestatic 85, 3) := by decide +kernel
theorem dX8_sum_17 : decode cX8_sum 17 = .ok (.ifCond .ne 7, 3) := by decide +kernel
theorem dX8_sum_20 : decode cX8_sum 20 = .ok (.ldc2_w 134, 3) := by decide +kernel
theorem dX8_sum_23 : decode cX8_sum 23 = .ok (.lreturn, 1) := by decide +kernel
theorem dX8_sum_24 : decode cX8_sum 24 = .ok (.iload_n 2, 1) := by decide +kernel
theorem dX8_sum_25 : decode cX8_sum 25 = .ok (.tableswitch 96 0 7 #[47, 54, 62, 70, 76, 76, 76, 88], 47) := by decide +kernel
theorem dX8_sum_72 : decode cX8_sum 72 = .ok (.aload_n 0, 1) := by decide +kernel
theorem dX8_sum_73 : decode cX8_sum 73 = .ok (.iload_n 1, 1) := by decide +kernel
theorem dX8_sum_74 : decode cX8_sum 74 = .ok (.iconst 0, 1) := by decide +kernel
theorem dX8_sum_75 : decode cX8_sum 75 = .ok (.invokevirtual 136, 3) := by decide +kernel
theorem dX8_sum_78 : decode cX8_sum 78 = .ok (.lreturn, 1) := by decide +kernel
theorem dX8_sum_79 : decode cX8_sum 79 = .ok (.aload_n 0, 1) := by decide +kernel
theorem dX8_sum_80 : decode cX8_sum 80 = .ok (.iload_n 1, 1) := by decide +kernel
theorem dX8_sum_81 : decode cX8_sum 81 = .ok (.bipush 8, 2) := by decide +kernel
theorem dX8_sum_83 : decode cX8_sum 83 = .ok (.invokevirtual 136, 3) := by decide +kernel
theorem dX8_sum_86 : decode cX8_sum 86 = .ok (.lreturn, 1) := by decide +kernel
theorem dX8_sum_87 : decode cX8_sum 87 = .ok (.aload_n 0, 1) := by decide +kernel
theorem dX8_sum_88 : decode cX8_sum 88 = .ok (.iload_n 1, 1) := by decide +kernel
theorem dX8_sum_89 : decode cX8_sum 89 = .ok (.bipush 9, 2) := by decide +kernel
theorem dX8_sum_91 : decode cX8_sum 91 = .ok (.invokevirtual 136, 3) := by decide +kernel
theorem dX8_sum_94 : decode cX8_sum 94 = .ok (.lreturn, 1) := by decide +kernel
theorem dX8_sum_95 : decode cX8_sum 95 = .ok (.aload_n 0, 1) := by decide +kernel
theorem dX8_sum_96 : decode cX8_sum 96 = .ok (.iload_n 1, 1) := by decide +kernel
theorem dX8_sum_97 : decode cX8_sum 97 = .ok (.invokevirtual 215, 3) := by decide +kernel
theorem dX8_sum_100 : decode cX8_sum 100 = .ok (.lreturn, 1) := by decide +kernel
theorem dX8_sum_101 : decode cX8_sum 101 = .ok (.aload_n 0, 1) := by decide +kernel
theorem dX8_sum_102 : decode cX8_sum 102 = .ok (.iload_n 1, 1) := by decide +kernel
theorem dX8_sum_103 : decode cX8_sum 103 = .ok (.bipush 10, 2) := by decide +kernel
theorem dX8_sum_105 : decode cX8_sum 105 = .ok (.iload_n 2, 1) := by decide +kernel
theorem dX8_sum_106 : decode cX8_sum 106 = .ok (.iadd, 1) := by decide +kernel
theorem dX8_sum_107 : decode cX8_sum 107 = .ok (.iconst 4, 1) := by decide +kernel
theorem dX8_sum_108 : decode cX8_sum 108 = .ok (.isub, 1) := by decide +kernel
theorem dX8_sum_109 : decode cX8_sum 109 = .ok (.invokevirtual 136, 3) := by decide +kernel
theorem dX8_sum_112 : decode cX8_sum 112 = .ok (.lreturn, 1) := by decide +kernel
theorem dX8_sum_113 : decode cX8_sum 113 = .ok (.aload_n 0, 1) := by decide +kernel
theorem dX8_sum_114 : decode cX8_sum 114 = .ok (.iload_n 1, 1) := by decide +kernel
theorem dX8_sum_115 : decode cX8_sum 115 = .ok (.bipush 13, 2) := by decide +kernel
theorem dX8_sum_117 : decode cX8_sum 117 = .ok (.invokevirtual 136, 3) := by decide +kernel
theorem dX8_sum_120 : decode cX8_sum 120 = .ok (.lreturn, 1) := by decide +kernel
theorem dX8_sum_121 : decode cX8_sum 121 = .ok (.aload_n 0, 1) := by decide +kernel
theorem dX8_sum_122 : decode cX8_sum 122 = .ok (.iload_n 1, 1) := by decide +kernel
theorem dX8_sum_123 : decode cX8_sum 123 = .ok (.invokevirtual 219, 3) := by decide +kernel
theorem dX8_sum_126 : decode cX8_sum 126 = .ok (.lconst 0, 1) := by decide +kernel
theorem dX8_sum_127 : decode cX8_sum 127 = .ok (.lstore_n 3, 1) := by decide +kernel
theorem dX8_sum_128 : decode cX8_sum 128 = .ok (.iconst 0, 1) := by decide +kernel
theorem dX8_sum_129 : decode cX8_sum 129 = .ok (.istore 5, 2) := by decide +kernel
theorem dX8_sum_131 : decode cX8_sum 131 = .ok (.iload 5, 2) := by decide +kernel
theorem dX8_sum_133 : decode cX8_sum 133 = .ok (.aload_n 0, 1) := by decide +kernel
theorem dX8_sum_134 : decode cX8_sum 134 = .ok (.getfield 222, 3) := by decide +kernel
theorem dX8_sum_137 : decode cX8_sum 137 = .ok (.if_icmp .ge 19, 3) := by decide +kernel
theorem dX8_sum_140 : decode cX8_sum 140 = .ok (.lload_n 3, 1) := by decide +kernel
theorem dX8_sum_141 : decode cX8_sum 141 = .ok (.aload_n 0, 1) := by decide +kernel
theorem dX8_sum_142 : decode cX8_sum 142 = .ok (.getfield 26, 3) := by decide +kernel
theorem dX8_sum_145 : decode cX8_sum 145 = .ok (.iload 5, 2) := by decide +kernel
theorem dX8_sum_147 : decode cX8_sum 147 = .ok (.laload, 1) := by decide +kernel
theorem dX8_sum_148 : decode cX8_sum 148 = .ok (.ladd, 1) := by decide +kernel
theorem dX8_sum_149 : decode cX8_sum 149 = .ok (.lstore_n 3, 1) := by decide +kernel
theorem dX8_sum_150 : decode cX8_sum 150 = .ok (.iinc 5 1, 3) := by decide +kernel
theorem dX8_sum_153 : decode cX8_sum 153 = .ok (.goto (-22), 3) := by decide +kernel
theorem dX8_sum_156 : decode cX8_sum 156 = .ok (.lload_n 3, 1) := by decide +kernel
theorem dX8_sum_157 : decode cX8_sum 157 = .ok (.lreturn, 1) := by decide +kernel
theorem dX8_bill_0 : decode cX8_bill 0 = .ok (.aload_n 0, 1) := by decide +kernel
theorem dX8_bill_1 : decode cX8_bill 1 = .ok (.iload_n 1, 1) := by decide +kernel
theorem dX8_bill_2 : decode cX8_bill 2 = .ok (.invokevirtual 197, 3) := by decide +kernel
theorem dX8_bill_5 : decode cX8_bill 5 = .ok (.ifCond .eq 19, 3) := by decide +kernel
theorem dX8_bill_8 : decode cX8_bill 8 = .ok (.iload_n 2, 1) := by decide +kernel
theorem dX8_bill_9 : decode cX8_bill 9 = .ok (.ifCond .lt 15, 3) := by decide +kernel
theorem dX8_bill_12 : decode cX8_bill 12 = .ok (.iload_n 3, 1) := by decide +kernel
theorem dX8_bill_13 : decode cX8_bill 13 = .ok (.i2l, 1) := by decide +kernel
theorem dX8_bill_14 : decode cX8_bill 14 = .ok (.lconst 0, 1) := by decide +kernel
theorem dX8_bill_15 : decode cX8_bill 15 = .ok (.ldc2_w 92, 3) := by decide +kernel
theorem dX8_bill_18 : decode cX8_bill 18 = .ok (.invokestatic 85, 3) := by decide +kernel
theorem dX8_bill_21 : decode cX8_bill 21 = .ok (.ifCond .ne 7, 3) := by decide +kernel
theorem dX8_bill_24 : decode cX8_bill 24 = .ok (.ldc2_w 134, 3) := by decide +kernel
theorem dX8_bill_27 : decode cX8_bill 27 = .ok (.lreturn, 1) := by decide +kernel
theorem dX8_bill_28 : decode cX8_bill 28 = .ok (.iload_n 2, 1) := by decide +kernel
theorem dX8_bill_29 : decode cX8_bill 29 = .ok (.i2l, 1) := by decide +kernel
theorem dX8_bill_30 : decode cX8_bill 30 = .ok (.aload_n 0, 1) := by decide +kernel
theorem dX8_bill_31 : decode cX8_bill 31 = .ok (.iload_n 1, 1) := by decide +kernel
theorem dX8_bill_32 : decode cX8_bill 32 = .ok (.bipush 14, 2) := by decide +kernel
theorem dX8_bill_34 : decode cX8_bill 34 = .ok (.invokevirtual 136, 3) := by decide +kernel
theorem dX8_bill_37 : decode cX8_bill 37 = .ok (.lcmp, 1) := by decide +kernel
theorem dX8_bill_38 : decode cX8_bill 38 = .ok (.ifCond .ge 19, 3) := by decide +kernel
theorem dX8_bill_41 : decode cX8_bill 41 = .ok (.aload_n 0, 1) := by decide +kernel
theorem dX8_bill_42 : decode cX8_bill 42 = .ok (.iload_n 1, 1) := by decide +kernel
theorem dX8_bill_43 : decode cX8_bill 43 = .ok (.bipush 15, 2) := by decide +kernel
theorem dX8_bill_45 : decode cX8_bill 45 = .ok (.iconst 5, 1) := by decide +kernel
theorem dX8_bill_46 : decode cX8_bill 46 = .ok (.iload_n 2, 1) := by decide +kernel
theorem dX8_bill_47 : decode cX8_bill 47 = .ok (.imul, 1) := by decide +kernel
theorem dX8_bill_48 : decode cX8_bill 48 = .ok (.iadd, 1) := by decide +kernel
theorem dX8_bill_49 : decode cX8_bill 49 = .ok (.iload_n 3, 1) := by decide +kernel
theorem dX8_bill_50 : decode cX8_bill 50 = .ok (.iadd, 1) := by decide +kernel
theorem dX8_bill_51 : decode cX8_bill 51 = .ok (.invokevirtual 136, 3) := by decide +kernel
theorem dX8_bill_54 : decode cX8_bill 54 = .ok (.goto 6, 3) := by decide +kernel
theorem dX8_bill_57 : decode cX8_bill 57 = .ok (.ldc2_w 226, 3) := by decide +kernel
theorem dX8_bill_60 : decode cX8_bill 60 = .ok (.lreturn, 1) := by decide +kernel
theorem dX8_comes_0 : decode cX8_comes 0 = .ok (.aload_n 0, 1) := by decide +kernel
theorem dX8_comes_1 : decode cX8_comes 1 = .ok (.iload_n 1, 1) := by decide +kernel
theorem dX8_comes_2 : decode cX8_comes 2 = .ok (.bipush 7, 2) := by decide +kernel
theorem dX8_comes_4 : decode cX8_comes 4 = .ok (.invokevirtual 136, 3) := by decide +kernel
theorem dX8_comes_7 : decode cX8_comes 7 = .ok (.l2i, 1) := by decide +kernel
theorem dX8_comes_8 : decode cX8_comes 8 = .ok (.istore_n 2, 1) := by decide +kernel
theorem dX8_comes_9 : decode cX8_comes 9 = .ok (.aload_n 0, 1) := by decide +kernel
theorem dX8_comes_10 : decode cX8_comes 10 = .ok (.aload_n 0, 1) := by decide +kernel
theorem dX8_comes_11 : decode cX8_comes 11 = .ok (.iload_n 1, 1) := by decide +kernel
theorem dX8_comes_12 : decode cX8_comes 12 = .ok (.iconst 4, 1) := by decide +kernel
theorem dX8_comes_13 : decode cX8_comes 13 = .ok (.invokevirtual 136, 3) := by decide +kernel
theorem dX8_comes_16 : decode cX8_comes 16 = .ok (.l2i, 1) := by decide +kernel
theorem dX8_comes_17 : decode cX8_comes 17 = .ok (.iload_n 2, 1) := by decide +kernel
theorem dX8_comes_18 : decode cX8_comes 18 = .ok (.isub, 1) := by decide +kernel
theorem dX8_comes_19 : decode cX8_comes 19 = .ok (.putfield 222, 3) := by decide +kernel
theorem dX8_comes_22 : decode cX8_comes 22 = .ok (.aload_n 0, 1) := by decide +kernel
theorem dX8_comes_23 : decode cX8_comes 23 = .ok (.iload_n 1, 1) := by decide +kernel
theorem dX8_comes_24 : decode cX8_comes 24 = .ok (.bipush 8, 2) := by decide +kernel
theorem dX8_comes_26 : decode cX8_comes 26 = .ok (.invokevirtual 136, 3) := by decide +kernel
theorem dX8_comes_29 : decode cX8_comes 29 = .ok (.lstore_n 3, 1) := by decide +kernel
theorem dX8_comes_30 : decode cX8_comes 30 = .ok (.iconst 0, 1) := by decide +kernel
theorem dX8_comes_31 : decode cX8_comes 31 = .ok (.istore 5, 2) := by decide +kernel
theorem dX8_comes_33 : decode cX8_comes 33 = .ok (.iload 5, 2) := by decide +kernel
theorem dX8_comes_35 : decode cX8_comes 35 = .ok (.aload_n 0, 1) := by decide +kernel
theorem dX8_comes_36 : decode cX8_comes 36 = .ok (.getfield 222, 3) := by decide +kernel
theorem dX8_comes_39 : decode cX8_comes 39 = .ok (.if_icmp .ge 86, 3) := by decide +kernel
theorem dX8_comes_42 : decode cX8_comes 42 = .ok (.aload_n 0, 1) := by decide +kernel
theorem dX8_comes_43 : decode cX8_comes 43 = .ok (.getfield 22, 3) := by decide +kernel
theorem dX8_comes_46 : decode cX8_comes 46 = .ok (.iload 5, 2) := by decide +kernel
theorem dX8_comes_48 : decode cX8_comes 48 = .ok (.aload_n 0, 1) := by decide +kernel
theorem dX8_comes_49 : decode cX8_comes 49 = .ok (.iload_n 1, 1) := by decide +kernel
theorem dX8_comes_50 : decode cX8_comes 50 = .ok (.iload_n 2, 1) := by decide +kernel
theorem dX8_comes_51 : decode cX8_comes 51 = .ok (.iload 5, 2) := by decide +kernel
theorem dX8_comes_53 : decode cX8_comes 53 = .ok (.iadd, 1) := by decide +kernel
theorem dX8_comes_54 : decode cX8_comes 54 = .ok (.iconst 1, 1) := by decide +kernel
theorem dX8_comes_55 : decode cX8_comes 55 = .ok (.iadd, 1) := by decide +kernel
theorem dX8_comes_56 : decode cX8_comes 56 = .ok (.invokevirtual 143, 3) := by decide +kernel
theorem dX8_comes_59 : decode cX8_comes 59 = .ok (.iastore, 1) := by decide +kernel
theorem dX8_comes_60 : decode cX8_comes 60 = .ok (.aload_n 0, 1) := by decide +kernel
theorem dX8_comes_61 : decode cX8_comes 61 = .ok (.getfield 26, 3) := by decide +kernel
theorem dX8_comes_64 : decode cX8_comes 64 = .ok (.iload 5, 2) := by decide +kernel
theorem dX8_comes_66 : decode cX8_comes 66 = .ok (.aload_n 0, 1) := by decide +kernel
theorem dX8_comes_67 : decode cX8_comes 67 = .ok (.iload_n 1, 1) := by decide +kernel
theorem dX8_comes_68 : decode cX8_comes 68 = .ok (.lload_n 3, 1) := by decide +kernel
theorem dX8_comes_69 : decode cX8_comes 69 = .ok (.iload_n 2, 1) := by decide +kernel
theorem dX8_comes_70 : decode cX8_comes 70 = .ok (.iload 5, 2) := by decide +kernel
theorem dX8_comes_72 : decode cX8_comes 72 = .ok (.iadd, 1) := by decide +kernel
theorem dX8_comes_73 : decode cX8_comes 73 = .ok (.invokevirtual 146, 3) := by decide +kernel
theorem dX8_comes_76 : decode cX8_comes 76 = .ok (.lastore, 1) := by decide +kernel
theorem dX8_comes_77 : decode cX8_comes 77 = .ok (.aload_n 0, 1) := by decide +kernel
theorem dX8_comes_78 : decode cX8_comes 78 = .ok (.getfield 29, 3) := by decide +kernel
theorem dX8_comes_81 : decode cX8_comes 81 = .ok (.iload 5, 2) := by decide +kernel
theorem dX8_comes_83 : decode cX8_comes 83 = .ok (.aload_n 0, 1) := by decide +kernel
theorem dX8_comes_84 : decode cX8_comes 84 = .ok (.iload_n 1, 1) := by decide +kernel
theorem dX8_comes_85 : decode cX8_comes 85 = .ok (.lload_n 3, 1) := by decide +kernel
theorem dX8_comes_86 : decode cX8_comes 86 = .ok (.aload_n 0, 1) := by decide +kernel
theorem dX8_comes_87 : decode cX8_comes 87 = .ok (.getfield 26, 3) := by decide +kernel
theorem dX8_comes_90 : decode cX8_comes 90 = .ok (.iload 5, 2) := by decide +kernel
theorem dX8_comes_92 : decode cX8_comes 92 = .ok (.laload, 1) := by decide +kernel
theorem dX8_comes_93 : decode cX8_comes 93 = .ok (.iload_n 2, 1) := by decide +kernel
theorem dX8_comes_94 : decode cX8_comes 94 = .ok (.iload 5, 2) := by decide +kernel
theorem dX8_comes_96 : decode cX8_comes 96 = .ok (.iadd, 1) := by decide +kernel
theorem dX8_comes_97 : decode cX8_comes 97 = .ok (.invokevirtual 175, 3) := by decide +kernel
theorem dX8_comes_100 : decode cX8_comes 100 = .ok (.lastore, 1) := by decide +kernel
theorem dX8_comes_101 : decode cX8_comes 101 = .ok (.lload_n 3, 1) := by decide +kernel
theorem dX8_comes_102 : decode cX8_comes 102 = .ok (.aload_n 0, 1) := by decide +kernel
theorem dX8_comes_103 : decode cX8_comes 103 = .ok (.getfield 29, 3) := by decide +kernel
theorem dX8_comes_106 : decode cX8_comes 106 = .ok (.iload 5, 2) := by decide +kernel
theorem dX8_comes_108 : decode cX8_comes 108 = .ok (.laload, 1) := by decide +kernel
theorem dX8_comes_109 : decode cX8_comes 109 = .ok (.lsub, 1) := by decide +kernel
theorem dX8_comes_110 : decode cX8_comes 110 = .ok (.lstore_n 3, 1) := by decide +kernel
theorem dX8_comes_111 : decode cX8_comes 111 = .ok (.aload_n 0, 1) := by decide +kernel
theorem dX8_comes_112 : decode cX8_comes 112 = .ok (.getfield 32, 3) := by decide +kernel
theorem dX8_comes_115 : decode cX8_comes 115 = .ok (.iload 5, 2) := by decide +kernel
theorem dX8_comes_117 : decode cX8_comes 117 = .ok (.lload_n 3, 1) := by decide +kernel
theorem dX8_comes_118 : decode cX8_comes 118 = .ok (.lastore, 1) := by decide +kernel
theorem dX8_comes_119 : decode cX8_comes 119 = .ok (.iinc 5 1, 3) := by decide +kernel
theorem dX8_comes_122 : decode cX8_comes 122 = .ok (.goto (-89), 3) := by decide +kernel
theorem dX8_comes_125 : decode cX8_comes 125 = .ok (.return_, 1) := by decide +kernel
theorem dX8_flow_0 : decode cX8_flow 0 = .ok (.aload_n 0, 1) := by decide +kernel
theorem dX8_flow_1 : decode cX8_flow 1 = .ok (.getfield 26, 3) := by decide +kernel
theorem dX8_flow_4 : decode cX8_flow 4 = .ok (.iload_n 1, 1) := by decide +kernel
theorem dX8_flow_5 : decode cX8_flow 5 = .ok (.laload, 1) := by decide +kernel
theorem dX8_flow_6 : decode cX8_flow 6 = .ok (.aload_n 0, 1) := by decide +kernel
theorem dX8_flow_7 : decode cX8_flow 7 = .ok (.getfield 29, 3) := by decide +kernel
theorem dX8_flow_10 : decode cX8_flow 10 = .ok (.iload_n 1, 1) := by decide +kernel
theorem dX8_flow_11 : decode cX8_flow 11 = .ok (.laload, 1) := by decide +kernel
theorem dX8_flow_12 : decode cX8_flow 12 = .ok (.ladd, 1) := by decide +kernel
theorem dX8_flow_13 : decode cX8_flow 13 = .ok (.lreturn, 1) := by decide +kernel
theorem dX8_nth_0 : decode cX8_nth 0 = .ok (.iconst 0, 1) := by decide +kernel
theorem dX8_nth_1 : decode cX8_nth 1 = .ok (.istore_n 2, 1) := by decide +kernel
theorem dX8_nth_2 : decode cX8_nth 2 = .ok (.iconst 0, 1) := by decide +kernel
theorem dX8_nth_3 : decode cX8_nth 3 = .ok (.istore_n 3, 1) := by decide +kernel
theorem dX8_nth_4 : decode cX8_nth 4 = .ok (.iload_n 3, 1) := by decide +kernel
theorem dX8_nth_5 : decode cX8_nth 5 = .ok (.aload_n 0, 1) := by decide +kernel
theorem dX8_nth_6 : decode cX8_nth 6 = .ok (.getfield 222, 3) := by decide +kernel
theorem dX8_nth_9 : decode cX8_nth 9 = .ok (.if_icmp .ge 29, 3) := by decide +kernel
theorem dX8_nth_12 : decode cX8_nth 12 = .ok (.aload_n 0, 1) := by decide +kernel
theorem dX8_nth_13 : decode cX8_nth 13 = .ok (.iload_n 3, 1) := by decide +kernel
theorem dX8_nth_14 : decode cX8_nth 14 = .ok (.invokevirtual 228, 3) := by decide +kernel
theorem dX8_nth_17 : decode cX8_nth 17 = .ok (.lconst 0, 1) := by decide +kernel
theorem dX8_nth_18 : decode cX8_nth 18 = .ok (.lcmp, 1) := by decide +kernel
theorem dX8_nth_19 : decode cX8_nth 19 = .ok (.ifCond .le 13, 3) := by decide +kernel
theorem dX8_nth_22 : decode cX8_nth 22 = .ok (.iload_n 2, 1) := by decide +kernel
theorem dX8_nth_23 : decode cX8_nth 23 = .ok (.iload_n 1, 1) := by decide +kernel
theorem dX8_nth_24 : decode cX8_nth 24 = .ok (.if_icmp .ne 5, 3) := by decide +kernel
theorem dX8_nth_27 : decode cX8_nth 27 = .ok (.iload_n 3, 1) := by decide +kernel
theorem dX8_nth_28 : decode cX8_nth 28 = .ok (.ireturn, 1) := by decide +kernel
theorem dX8_nth_29 : decode cX8_nth 29 = .ok (.iinc 2 1, 3) := by decide +kernel
theorem dX8_nth_32 : decode cX8_nth 32 = .ok (.iinc 3 1, 3) := by decide +kernel
theorem dX8_nth_35 : decode cX8_nth 35 = .ok (.goto (-31), 3) := by decide +kernel
theorem dX8_nth_38 : decode cX8_nth 38 = .ok (.bipush (-2), 2) := by decide +kernel
theorem dX8_nth_40 : decode cX8_nth 40 = .ok (.ireturn, 1) := by decide +kernel
theorem dX8_toCome_0 : decode cX8_toCome 0 = .ok (.aload_n 0, 1) := by decide +kernel
theorem dX8_toCome_1 : decode cX8_toCome 1 = .ok (.iload_n 1, 1) := by decide +kernel
theorem dX8_toCome_2 : decode cX8_toCome 2 = .ok (.invokevirtual 197, 3) := by decide +kernel
theorem dX8_toCome_5 : decode cX8_toCome 5 = .ok (.ifCond .eq 19, 3) := by decide +kernel
theorem dX8_toCome_8 : decode cX8_toCome 8 = .ok (.iload_n 2, 1) := by decide +kernel
theorem dX8_toCome_9 : decode cX8_toCome 9 = .ok (.ifCond .lt 15, 3) := by decide +kernel
theorem dX8_toCome_12 : decode cX8_toCome 12 = .ok (.iload_n 3, 1) := by decide +kernel
theorem dX8_toCome_13 : decode cX8_toCome 13 = .ok (.i2l, 1) := by decide +kernel
theorem dX8_toCome_14 : decode cX8_toCome 14 = .ok (.lconst 0, 1) := by decide +kernel
theorem dX8_toCome_15 : decode cX8_toCome 15 = .ok (.ldc2_w 92, 3) := by decide +kernel
theorem dX8_toCome_18 : decode cX8_toCome 18 = .ok (.invokestatic 85, 3) := by decide +kernel
theorem dX8_toCome_21 : decode cX8_toCome 21 = .ok (.ifCond .ne 7, 3) := by decide +kernel
theorem dX8_toCome_24 : decode cX8_toCome 24 = .ok (.ldc2_w 134, 3) := by decide +kernel
theorem dX8_toCome_27 : decode cX8_toCome 27 = .ok (.lreturn, 1) := by decide +kernel
theorem dX8_toCome_28 : decode cX8_toCome 28 = .ok (.aload_n 0, 1) := by decide +kernel
theorem dX8_toCome_29 : decode cX8_toCome 29 = .ok (.iload_n 1, 1) := by decide +kernel
theorem dX8_toCome_30 : decode cX8_toCome 30 = .ok (.invokevirtual 219, 3) := by decide +kernel
theorem dX8_toCome_33 : decode cX8_toCome 33 = .ok (.aload_n 0, 1) := by decide +kernel
theorem dX8_toCome_34 : decode cX8_toCome 34 = .ok (.iload_n 2, 1) := by decide +kernel
theorem dX8_toCome_35 : decode cX8_toCome 35 = .ok (.invokevirtual 231, 3) := by decide +kernel
theorem dX8_toCome_38 : decode cX8_toCome 38 = .ok (.istore 4, 2) := by decide +kernel
theorem dX8_toCome_40 : decode cX8_toCome 40 = .ok (.iload 4, 2) := by decide +kernel
theorem dX8_toCome_42 : decode cX8_toCome 42 = .ok (.ifCond .ge 7, 3) := by decide +kernel
theorem dX8_toCome_45 : decode cX8_toCome 45 = .ok (.ldc2_w 226, 3) := by decide +kernel
theorem dX8_toCome_48 : decode cX8_toCome 48 = .ok (.lreturn, 1) := by decide +kernel
theorem dX8_toCome_49 : decode cX8_toCome 49 = .ok (.iload_n 3, 1) := by decide +kernel
theorem dX8_toCome_50 : decode cX8_toCome 50 = .ok (.ifCond .ne 14, 3) := by decide +kernel
theorem dX8_toCome_53 : decode cX8_toCome 53 = .ok (.aload_n 0, 1) := by decide +kernel
theorem dX8_toCome_54 : decode cX8_toCome 54 = .ok (.getfield 22, 3) := by decide +kernel
theorem dX8_toCome_57 : decode cX8_toCome 57 = .ok (.iload 4, 2) := by decide +kernel
theorem dX8_toCome_59 : decode cX8_toCome 59 = .ok (.iaload, 1) := by decide +kernel
theorem dX8_toCome_60 : decode cX8_toCome 60 = .ok (.i2l, 1) := by decide +kernel
theorem dX8_toCome_61 : decode cX8_toCome 61 = .ok (.goto 40, 3) := by decide +kernel
theorem dX8_toCome_64 : decode cX8_toCome 64 = .ok (.iload_n 3, 1) := by decide +kernel
theorem dX8_toCome_65 : decode cX8_toCome 65 = .ok (.iconst 1, 1) := by decide +kernel
theorem dX8_toCome_66 : decode cX8_toCome 66 = .ok (.if_icmp .ne 13, 3) := by decide +kernel
theorem dX8_toCome_69 : decode cX8_toCome 69 = .ok (.aload_n 0, 1) := by decide +kernel
theorem dX8_toCome_70 : decode cX8_toCome 70 = .ok (.getfield 26, 3) := by decide +kernel
theorem dX8_toCome_73 : decode cX8_toCome 73 = .ok (.iload 4, 2) := by decide +kernel
theorem dX8_toCome_75 : decode cX8_toCome 75 = .ok (.laload, 1) := by decide +kernel
theorem dX8_toCome_76 : decode cX8_toCome 76 = .ok (.goto 25, 3) := by decide +kernel
theorem dX8_toCome_79 : decode cX8_toCome 79 = .ok (.iload_n 3, 1) := by decide +kernel
theorem dX8_toCome_80 : decode cX8_toCome 80 = .ok (.iconst 2, 1) := by decide +kernel
theorem dX8_toCome_81 : decode cX8_toCome 81 = .ok (.if_icmp .ne 13, 3) := by decide +kernel
theorem dX8_toCome_84 : decode cX8_toCome 84 = .ok (.aload_n 0, 1) := by decide +kernel
theorem dX8_toCome_85 : decode cX8_toCome 85 = .ok (.getfield 29, 3) := by decide +kernel
theorem dX8_toCome_88 : decode cX8_toCome 88 = .ok (.iload 4, 2) := by decide +kernel
theorem dX8_toCome_90 : decode cX8_toCome 90 = .ok (.laload, 1) := by decide +kernel
theorem dX8_toCome_91 : decode cX8_toCome 91 = .ok (.goto 10, 3) := by decide +kernel
theorem dX8_toCome_94 : decode cX8_toCome 94 = .ok (.aload_n 0, 1) := by decide +kernel
theorem dX8_toCome_95 : decode cX8_toCome 95 = .ok (.getfield 32, 3) := by decide +kernel
theorem dX8_toCome_98 : decode cX8_toCome 98 = .ok (.iload 4, 2) := by decide +kernel
theorem dX8_toCome_100 : decode cX8_toCome 100 = .ok (.laload, 1) := by decide +kernel
theorem dX8_toCome_101 : decode cX8_toCome 101 = .ok (.lreturn, 1) := by decide +kernel
theorem dX8_coming_0 : decode cX8_coming 0 = .ok (.aload_n 0, 1) := by decide +kernel
theorem dX8_coming_1 : decode cX8_coming 1 = .ok (.iload_n 1, 1) := by decide +kernel
theorem dX8_coming_2 : decode cX8_coming 2 = .ok (.invokevirtual 197, 3) := by decide +kernel
theorem dX8_coming_5 : decode cX8_coming 5 = .ok (.ifCond .eq 15, 3) := by decide +kernel
theorem dX8_coming_8 : decode cX8_coming 8 = .ok (.iload_n 2, 1) := by decide +kernel
theorem dX8_coming_9 : decode cX8_coming 9 = .ok (.i2l, 1) := by decide +kernel
theorem dX8_coming_10 : decode cX8_coming 10 = .ok (.lconst 0, 1) := by decide +kernel
theorem dX8_coming_11 : decode cX8_coming 11 = .ok (.ldc2_w 124, 3) := by decide +kernel
theorem dX8_coming_14 : decode cX8_coming 14 = .ok (.invokestatic 85, 3) := by decide +kernel
theorem dX8_coming_17 : decode cX8_coming 17 = .ok (.ifCond .ne 7, 3) := by decide +kernel
theorem dX8_coming_20 : decode cX8_coming 20 = .ok (.ldc2_w 134, 3) := by decide +kernel
theorem dX8_coming_23 : decode cX8_coming 23 = .ok (.lreturn, 1) := by decide +kernel
theorem dX8_coming_24 : decode cX8_coming 24 = .ok (.aload_n 0, 1) := by decide +kernel
theorem dX8_coming_25 : decode cX8_coming 25 = .ok (.iload_n 1, 1) := by decide +kernel
theorem dX8_coming_26 : decode cX8_coming 26 = .ok (.invokevirtual 219, 3) := by decide +kernel
theorem dX8_coming_29 : decode cX8_coming 29 = .ok (.iconst 0, 1) := by decide +kernel
theorem dX8_coming_30 : decode cX8_coming 30 = .ok (.istore_n 3, 1) := by decide +kernel
theorem dX8_coming_31 : decode cX8_coming 31 = .ok (.ldc2_w 226, 3) := by decide +kernel
theorem dX8_coming_34 : decode cX8_coming 34 = .ok (.lstore 4, 2) := by decide +kernel
theorem dX8_coming_36 : decode cX8_coming 36 = .ok (.lconst 0, 1) := by decide +kernel
theorem dX8_coming_37 : decode cX8_coming 37 = .ok (.lstore 6, 2) := by decide +kernel
theorem dX8_coming_39 : decode cX8_coming 39 = .ok (.iconst 0, 1) := by decide +kernel
theorem dX8_coming_40 : decode cX8_coming 40 = .ok (.istore 8, 2) := by decide +kernel
theorem dX8_coming_42 : decode cX8_coming 42 = .ok (.iload 8, 2) := by decide +kernel
theorem dX8_coming_44 : decode cX8_coming 44 = .ok (.aload_n 0, 1) := by decide +kernel
theorem dX8_coming_45 : decode cX8_coming 45 = .ok (.getfield 222, 3) := by decide +kernel
theorem dX8_coming_48 : decode cX8_coming 48 = .ok (.if_icmp .ge 58, 3) := by decide +kernel
theorem dX8_coming_51 : decode cX8_coming 51 = .ok (.aload_n 0, 1) := by decide +kernel
theorem dX8_coming_52 : decode cX8_coming 52 = .ok (.iload 8, 2) := by decide +kernel
theorem dX8_coming_54 : decode cX8_coming 54 = .ok (.invokevirtual 228, 3) := by decide +kernel
theorem dX8_coming_57 : decode cX8_coming 57 = .ok (.lconst 0, 1) := by decide +kernel
theorem dX8_coming_58 : decode cX8_coming 58 = .ok (.lcmp, 1) := by decide +kernel
theorem dX8_coming_59 : decode cX8_coming 59 = .ok (.ifCond .le 41, 3) := by decide +kernel
theorem dX8_coming_62 : decode cX8_coming 62 = .ok (.iinc 3 1, 3) := by decide +kernel
theorem dX8_coming_65 : decode cX8_coming 65 = .ok (.aload_n 0, 1) := by decide +kernel
theorem dX8_coming_66 : decode cX8_coming 66 = .ok (.getfield 22, 3) := by decide +kernel
theorem dX8_coming_69 : decode cX8_coming 69 = .ok (.iload 8, 2) := by decide +kernel
theorem dX8_coming_71 : decode cX8_coming 71 = .ok (.iaload, 1) := by decide +kernel
theorem dX8_coming_72 : decode cX8_coming 72 = .ok (.i2l, 1) := by decide +kernel
theorem dX8_coming_73 : decode cX8_coming 73 = .ok (.lstore 4, 2) := by decide +kernel
theorem dX8_coming_75 : decode cX8_coming 75 = .ok (.aload_n 0, 1) := by decide +kernel
theorem dX8_coming_76 : decode cX8_coming 76 = .ok (.iload 8, 2) := by decide +kernel
theorem dX8_coming_78 : decode cX8_coming 78 = .ok (.invokevirtual 228, 3) := by decide +kernel
theorem dX8_coming_81 : decode cX8_coming 81 = .ok (.lload 6, 2) := by decide +kernel
theorem dX8_coming_83 : decode cX8_coming 83 = .ok (.lcmp, 1) := by decide +kernel
theorem dX8_coming_84 : decode cX8_coming 84 = .ok (.ifCond .le 12, 3) := by decide +kernel
theorem dX8_coming_87 : decode cX8_coming 87 = .ok (.aload_n 0, 1) := by decide +kernel
theorem dX8_coming_88 : decode cX8_coming 88 = .ok (.iload 8, 2) := by decide +kernel
theorem dX8_coming_90 : decode cX8_coming 90 = .ok (.invokevirtual 228, 3) := by decide +kernel
theorem dX8_coming_93 : decode cX8_coming 93 = .ok (.goto 5, 3) := by decide +kernel
theorem dX8_coming_96 : decode cX8_coming 96 = .ok (.lload 6, 2) := by decide +kernel
theorem dX8_coming_98 : decode cX8_coming 98 = .ok (.lstore 6, 2) := by decide +kernel
theorem dX8_coming_100 : decode cX8_coming 100 = .ok (.iinc 8 1, 3) := by decide +kernel
theorem dX8_coming_103 : decode cX8_coming 103 = .ok (.goto (-61), 3) := by decide +kernel
theorem dX8_coming_106 : decode cX8_coming 106 = .ok (.iload_n 2, 1) := by decide +kernel
theorem dX8_coming_107 : decode cX8_coming 107 = .ok (.ifCond .ne 8, 3) := by decide +kernel
theorem dX8_coming_110 : decode cX8_coming 110 = .ok (.iload_n 3, 1) := by decide +kernel
theorem dX8_coming_111 : decode cX8_coming 111 = .ok (.i2l, 1) := by decide +kernel
theorem dX8_coming_112 : decode cX8_coming 112 = .ok (.goto 15, 3) := by decide +kernel
theorem dX8_coming_115 : decode cX8_coming 115 = .ok (.iload_n 2, 1) := by decide +kernel
theorem dX8_coming_116 : decode cX8_coming 116 = .ok (.iconst 1, 1) := by decide +kernel
theorem dX8_coming_117 : decode cX8_coming 117 = .ok (.if_icmp .ne 8, 3) := by decide +kernel
theorem dX8_coming_120 : decode cX8_coming 120 = .ok (.lload 4, 2) := by decide +kernel
theorem dX8_coming_122 : decode cX8_coming 122 = .ok (.goto 5, 3) := by decide +kernel
theorem dX8_coming_125 : decode cX8_coming 125 = .ok (.lload 6, 2) := by decide +kernel
theorem dX8_coming_127 : decode cX8_coming 127 = .ok (.lreturn, 1) := by decide +kernel
theorem dX8_valueOf_0 : decode cX8_valueOf 0 = .ok (.dconst 0, 1) := by decide +kernel
theorem dX8_valueOf_1 : decode cX8_valueOf 1 = .ok (.dstore 4, 2) := by decide +kernel
theorem dX8_valueOf_3 : decode cX8_valueOf 3 = .ok (.aload_n 0, 1) := by decide +kernel
theorem dX8_valueOf_4 : decode cX8_valueOf 4 = .ok (.getfield 222, 3) := by decide +kernel
theorem dX8_valueOf_7 : decode cX8_valueOf 7 = .ok (.iconst 1, 1) := by decide +kernel
theorem dX8_valueOf_8 : decode cX8_valueOf 8 = .ok (.isub, 1) := by decide +kernel
theorem dX8_valueOf_9 : decode cX8_valueOf 9 = .ok (.istore 6, 2) := by decide +kernel
theorem dX8_valueOf_11 : decode cX8_valueOf 11 = .ok (.iload 6, 2) := by decide +kernel
theorem dX8_valueOf_13 : decode cX8_valueOf 13 = .ok (.ifCond .lt 49, 3) := by decide +kernel
theorem dX8_valueOf_16 : decode cX8_valueOf 16 = .ok (.iload_n 3, 1) := by decide +kernel
theorem dX8_valueOf_17 : decode cX8_valueOf 17 = .ok (.ifCond .eq 19, 3) := by decide +kernel
theorem dX8_valueOf_20 : decode cX8_valueOf 20 = .ok (.aload_n 0, 1) := by decide +kernel
theorem dX8_valueOf_21 : decode cX8_valueOf 21 = .ok (.iload 6, 2) := by decide +kernel
theorem dX8_valueOf_23 : decode cX8_valueOf 23 = .ok (.invokevirtual 228, 3) := by decide +kernel
theorem dX8_valueOf_26 : decode cX8_valueOf 26 = .ok (.iload 6, 2) := by decide +kernel
theorem dX8_valueOf_28 : decode cX8_valueOf 28 = .ok (.iconst 1, 1) := by decide +kernel
theorem dX8_valueOf_29 : decode cX8_valueOf 29 = .ok (.iadd, 1) := by decide +kernel
theorem dX8_valueOf_30 : decode cX8_valueOf 30 = .ok (.i2l, 1) := by decide +kernel
theorem dX8_valueOf_31 : decode cX8_valueOf 31 = .ok (.lmul, 1) := by decide +kernel
theorem dX8_valueOf_32 : decode cX8_valueOf 32 = .ok (.l2d, 1) := by decide +kernel
theorem dX8_valueOf_33 : decode cX8_valueOf 33 = .ok (.goto 10, 3) := by decide +kernel
theorem dX8_valueOf_36 : decode cX8_valueOf 36 = .ok (.aload_n 0, 1) := by decide +kernel
theorem dX8_valueOf_37 : decode cX8_valueOf 37 = .ok (.iload 6, 2) := by decide +kernel
theorem dX8_valueOf_39 : decode cX8_valueOf 39 = .ok (.invokevirtual 228, 3) := by decide +kernel
theorem dX8_valueOf_42 : decode cX8_valueOf 42 = .ok (.l2d, 1) := by decide +kernel
theorem dX8_valueOf_43 : decode cX8_valueOf 43 = .ok (.dstore 7, 2) := by decide +kernel
theorem dX8_valueOf_45 : decode cX8_valueOf 45 = .ok (.dload 4, 2) := by decide +kernel
theorem dX8_valueOf_47 : decode cX8_valueOf 47 = .ok (.dload 7, 2) := by decide +kernel
theorem dX8_valueOf_49 : decode cX8_valueOf 49 = .ok (.dadd, 1) := by decide +kernel
theorem dX8_valueOf_50 : decode cX8_valueOf 50 = .ok (.dconst 1, 1) := by decide +kernel
theorem dX8_valueOf_51 : decode cX8_valueOf 51 = .ok (.dload_n 1, 1) := by decide +kernel
theorem dX8_valueOf_52 : decode cX8_valueOf 52 = .ok (.dadd, 1) := by decide +kernel
theorem dX8_valueOf_53 : decode cX8_valueOf 53 = .ok (.ddiv, 1) := by decide +kernel
theorem dX8_valueOf_54 : decode cX8_valueOf 54 = .ok (.dstore 4, 2) := by decide +kernel
theorem dX8_valueOf_56 : decode cX8_valueOf 56 = .ok (.iinc 6 (-1), 3) := by decide +kernel
theorem dX8_valueOf_59 : decode cX8_valueOf 59 = .ok (.goto (-48), 3) := by decide +kernel
theorem dX8_valueOf_62 : decode cX8_valueOf 62 = .ok (.dload 4, 2) := by decide +kernel
theorem dX8_valueOf_64 : decode cX8_valueOf 64 = .ok (.dreturn, 1) := by decide +kernel
theorem dX8_isRate_0 : decode cX8_isRate 0 = .ok (.dload_n 0, 1) := by decide +kernel
theorem dX8_isRate_1 : decode cX8_isRate 1 = .ok (.dconst 0, 1) := by decide +kernel
theorem dX8_isRate_2 : decode cX8_isRate 2 = .ok (.dcmp .l, 1) := by decide +kernel
theorem dX8_isRate_3 : decode cX8_isRate 3 = .ok (.ifCond .lt 15, 3) := by decide +kernel
theorem dX8_isRate_6 : decode cX8_isRate 6 = .ok (.dload_n 0, 1) := by decide +kernel
theorem dX8_isRate_7 : decode cX8_isRate 7 = .ok (.ldc2_w 234, 3) := by decide +kernel
theorem dX8_isRate_10 : decode cX8_isRate 10 = .ok (.dcmp .g, 1) := by decide +kernel
theorem dX8_isRate_11 : decode cX8_isRate 11 = .ok (.ifCond .gt 7, 3) := by decide +kernel
theorem dX8_isRate_14 : decode cX8_isRate 14 = .ok (.iconst 1, 1) := by decide +kernel
theorem dX8_isRate_15 : decode cX8_isRate 15 = .ok (.goto 4, 3) := by decide +kernel
theorem dX8_isRate_18 : decode cX8_isRate 18 = .ok (.iconst 0, 1) := by decide +kernel
theorem dX8_isRate_19 : decode cX8_isRate 19 = .ok (.ireturn, 1) := by decide +kernel
theorem dX8_value_0 : decode cX8_value 0 = .ok (.lload_n 2, 1) := by decide +kernel
theorem dX8_value_1 : decode cX8_value 1 = .ok (.invokestatic 236, 3) := by decide +kernel
theorem dX8_value_4 : decode cX8_value 4 = .ok (.dstore 4, 2) := by decide +kernel
theorem dX8_value_6 : decode cX8_value 6 = .ok (.aload_n 0, 1) := by decide +kernel
theorem dX8_value_7 : decode cX8_value 7 = .ok (.iload_n 1, 1) := by decide +kernel
theorem dX8_value_8 : decode cX8_value 8 = .ok (.invokevirtual 197, 3) := by decide +kernel
theorem dX8_value_11 : decode cX8_value 11 = .ok (.ifCond .eq 11, 3) := by decide +kernel
theorem dX8_value_14 : decode cX8_value 14 = .ok (.dload 4, 2) := by decide +kernel
theorem dX8_value_16 : decode cX8_value 16 = .ok (.invokestatic 242, 3) := by decide +kernel
theorem dX8_value_19 : decode cX8_value 19 = .ok (.ifCond .ne 5, 3) := by decide +kernel
theorem dX8_value_22 : decode cX8_value 22 = .ok (.lconst 0, 1) := by decide +kernel
theorem dX8_value_23 : decode cX8_value 23 = .ok (.lreturn, 1) := by decide +kernel
theorem dX8_value_24 : decode cX8_value 24 = .ok (.aload_n 0, 1) := by decide +kernel
theorem dX8_value_25 : decode cX8_value 25 = .ok (.iload_n 1, 1) := by decide +kernel
theorem dX8_value_26 : decode cX8_value 26 = .ok (.invokevirtual 219, 3) := by decide +kernel
theorem dX8_value_29 : decode cX8_value 29 = .ok (.aload_n 0, 1) := by decide +kernel
theorem dX8_value_30 : decode cX8_value 30 = .ok (.dload 4, 2) := by decide +kernel
theorem dX8_value_32 : decode cX8_value 32 = .ok (.iconst 0, 1) := by decide +kernel
theorem dX8_value_33 : decode cX8_value 33 = .ok (.invokevirtual 246, 3) := by decide +kernel
theorem dX8_value_36 : decode cX8_value 36 = .ok (.invokestatic 250, 3) := by decide +kernel
theorem dX8_value_39 : decode cX8_value 39 = .ok (.lreturn, 1) := by decide +kernel
theorem dX8_yields_0 : decode cX8_yields 0 = .ok (.dconst 0, 1) := by decide +kernel
theorem dX8_yields_1 : decode cX8_yields 1 = .ok (.dstore_n 3, 1) := by decide +kernel
theorem dX8_yields_2 : decode cX8_yields 2 = .ok (.dconst 1, 1) := by decide +kernel
theorem dX8_yields_3 : decode cX8_yields 3 = .ok (.dstore 5, 2) := by decide +kernel
theorem dX8_yields_5 : decode cX8_yields 5 = .ok (.iconst 0, 1) := by decide +kernel
theorem dX8_yields_6 : decode cX8_yields 6 = .ok (.istore 7, 2) := by decide +kernel
theorem dX8_yields_8 : decode cX8_yields 8 = .ok (.iload 7, 2) := by decide +kernel
theorem dX8_yields_10 : decode cX8_yields 10 = .ok (.bipush 50, 2) := by decide +kernel
theorem dX8_yields_12 : decode cX8_yields 12 = .ok (.if_icmp .ge 42, 3) := by decide +kernel
theorem dX8_yields_15 : decode cX8_yields 15 = .ok (.dload_n 3, 1) := by decide +kernel
theorem dX8_yields_16 : decode cX8_yields 16 = .ok (.dload 5, 2) := by decide +kernel
theorem dX8_yields_18 : decode cX8_yields 18 = .ok (.dadd, 1) := by decide +kernel
theorem dX8_yields_19 : decode cX8_yields 19 = .ok (.ldc2_w 254, 3) := by decide +kernel
theorem dX8_yields_22 : decode cX8_yields 22 = .ok (.ddiv, 1) := by decide +kernel
theorem dX8_yields_23 : decode cX8_yields 23 = .ok (.dstore 8, 2) := by decide +kernel
theorem dX8_yields_25 : decode cX8_yields 25 = .ok (.aload_n 0, 1) := by decide +kernel
theorem dX8_yields_26 : decode cX8_yields 26 = .ok (.dload 8, 2) := by decide +kernel
theorem dX8_yields_28 : decode cX8_yields 28 = .ok (.iconst 0, 1) := by decide +kernel
theorem dX8_yields_29 : decode cX8_yields 29 = .ok (.invokevirtual 246, 3) := by decide +kernel
theorem dX8_yields_32 : decode cX8_yields 32 = .ok (.lload_n 1, 1) := by decide +kernel
theorem dX8_yields_33 : decode cX8_yields 33 = .ok (.l2d, 1) := by decide +kernel
theorem dX8_yields_34 : decode cX8_yields 34 = .ok (.dcmp .l, 1) := by decide +kernel
theorem dX8_yields_35 : decode cX8_yields 35 = .ok (.ifCond .le 9, 3) := by decide +kernel
theorem dX8_yields_38 : decode cX8_yields 38 = .ok (.dload 8, 2) := by decide +kernel
theorem dX8_yields_40 : decode cX8_yields 40 = .ok (.dstore_n 3, 1) := by decide +kernel
theorem dX8_yields_41 : decode cX8_yields 41 = .ok (.goto 7, 3) := by decide +kernel
theorem dX8_yields_44 : decode cX8_yields 44 = .ok (.dload 8, 2) := by decide +kernel
theorem dX8_yields_46 : decode cX8_yields 46 = .ok (.dstore 5, 2) := by decide +kernel
theorem dX8_yields_48 : decode cX8_yields 48 = .ok (.iinc 7 1, 3) := by decide +kernel
theorem dX8_yields_51 : decode cX8_yields 51 = .ok (.goto (-43), 3) := by decide +kernel
theorem dX8_yields_54 : decode cX8_yields 54 = .ok (.dload_n 3, 1) := by decide +kernel
theorem dX8_yields_55 : decode cX8_yields 55 = .ok (.dreturn, 1) := by decide +kernel
theorem dX8_yieldOf_0 : decode cX8_yieldOf 0 = .ok (.aload_n 0, 1) := by decide +kernel
theorem dX8_yieldOf_1 : decode cX8_yieldOf 1 = .ok (.iload_n 1, 1) := by decide +kernel
theorem dX8_yieldOf_2 : decode cX8_yieldOf 2 = .ok (.invokevirtual 197, 3) := by decide +kernel
theorem dX8_yieldOf_5 : decode cX8_yieldOf 5 = .ok (.ifCond .eq 9, 3) := by decide +kernel
theorem dX8_yieldOf_8 : decode cX8_yieldOf 8 = .ok (.lload_n 2, 1) := by decide +kernel
theorem dX8_yieldOf_9 : decode cX8_yieldOf 9 = .ok (.lconst 1, 1) := by decide +kernel
theorem dX8_yieldOf_10 : decode cX8_yieldOf 10 = .ok (.lcmp, 1) := by decide +kernel
theorem dX8_yieldOf_11 : decode cX8_yieldOf 11 = .ok (.ifCond .ge 7, 3) := by decide +kernel
theorem dX8_yieldOf_14 : decode cX8_yieldOf 14 = .ok (.ldc2_w 134, 3) := by decide +kernel
theorem dX8_yieldOf_17 : decode cX8_yieldOf 17 = .ok (.lreturn, 1) := by decide +kernel
theorem dX8_yieldOf_18 : decode cX8_yieldOf 18 = .ok (.aload_n 0, 1) := by decide +kernel
theorem dX8_yieldOf_19 : decode cX8_yieldOf 19 = .ok (.iload_n 1, 1) := by decide +kernel
theorem dX8_yieldOf_20 : decode cX8_yieldOf 20 = .ok (.invokevirtual 219, 3) := by decide +kernel
theorem dX8_yieldOf_23 : decode cX8_yieldOf 23 = .ok (.aload_n 0, 1) := by decide +kernel
theorem dX8_yieldOf_24 : decode cX8_yieldOf 24 = .ok (.lload_n 2, 1) := by decide +kernel
theorem dX8_yieldOf_25 : decode cX8_yieldOf 25 = .ok (.invokevirtual 256, 3) := by decide +kernel
theorem dX8_yieldOf_28 : decode cX8_yieldOf 28 = .ok (.invokestatic 250, 3) := by decide +kernel
theorem dX8_yieldOf_31 : decode cX8_yieldOf 31 = .ok (.lreturn, 1) := by decide +kernel
theorem dX8_near_0 : decode cX8_near 0 = .ok (.aload_n 0, 1) := by decide +kernel
theorem dX8_near_1 : decode cX8_near 1 = .ok (.iload_n 1, 1) := by decide +kernel
theorem dX8_near_2 : decode cX8_near 2 = .ok (.invokevirtual 197, 3) := by decide +kernel
theorem dX8_near_5 : decode cX8_near 5 = .ok (.ifCond .eq 9, 3) := by decide +kernel
theorem dX8_near_8 : decode cX8_near 8 = .ok (.lload_n 2, 1) := by decide +kernel
theorem dX8_near_9 : decode cX8_near 9 = .ok (.lconst 1, 1) := by decide +kernel
theorem dX8_near_10 : decode cX8_near 10 = .ok (.lcmp, 1) := by decide +kernel
theorem dX8_near_11 : decode cX8_near 11 = .ok (.ifCond .ge 5, 3) := by decide +kernel
theorem dX8_near_14 : decode cX8_near 14 = .ok (.iconst (-1), 1) := by decide +kernel
theorem dX8_near_15 : decode cX8_near 15 = .ok (.ireturn, 1) := by decide +kernel
theorem dX8_near_16 : decode cX8_near 16 = .ok (.aload_n 0, 1) := by decide +kernel
theorem dX8_near_17 : decode cX8_near 17 = .ok (.iload_n 1, 1) := by decide +kernel
theorem dX8_near_18 : decode cX8_near 18 = .ok (.invokevirtual 219, 3) := by decide +kernel
theorem dX8_near_21 : decode cX8_near 21 = .ok (.aload_n 0, 1) := by decide +kernel
theorem dX8_near_22 : decode cX8_near 22 = .ok (.lload_n 2, 1) := by decide +kernel
theorem dX8_near_23 : decode cX8_near 23 = .ok (.invokevirtual 256, 3) := by decide +kernel
theorem dX8_near_26 : decode cX8_near 26 = .ok (.d2f, 1) := by decide +kernel
theorem dX8_near_27 : decode cX8_near 27 = .ok (.invokestatic 259, 3) := by decide +kernel
theorem dX8_near_30 : decode cX8_near 30 = .ok (.ireturn, 1) := by decide +kernel
theorem dX8_duration_0 : decode cX8_duration 0 = .ok (.lload_n 2, 1) := by decide +kernel
theorem dX8_duration_1 : decode cX8_duration 1 = .ok (.invokestatic 236, 3) := by decide +kernel
theorem dX8_duration_4 : decode cX8_duration 4 = .ok (.dstore 4, 2) := by decide +kernel
theorem dX8_duration_6 : decode cX8_duration 6 = .ok (.aload_n 0, 1) := by decide +kernel
theorem dX8_duration_7 : decode cX8_duration 7 = .ok (.iload_n 1, 1) := by decide +kernel
theorem dX8_duration_8 : decode cX8_duration 8 = .ok (.invokevirtual 197, 3) := by decide +kernel
theorem dX8_duration_11 : decode cX8_duration 11 = .ok (.ifCond .eq 11, 3) := by decide +kernel
theorem dX8_duration_14 : decode cX8_duration 14 = .ok (.dload 4, 2) := by decide +kernel
theorem dX8_duration_16 : decode cX8_duration 16 = .ok (.invokestatic 242, 3) := by decide +kernel
theorem dX8_duration_19 : decode cX8_duration 19 = .ok (.ifCond .ne 5, 3) := by decide +kernel
theorem dX8_duration_22 : decode cX8_duration 22 = .ok (.lconst 0, 1) := by decide +kernel
theorem dX8_duration_23 : decode cX8_duration 23 = .ok (.lreturn, 1) := by decide +kernel
theorem dX8_duration_24 : decode cX8_duration 24 = .ok (.aload_n 0, 1) := by decide +kernel
theorem dX8_duration_25 : decode cX8_duration 25 = .ok (.iload_n 1, 1) := by decide +kernel
theorem dX8_duration_26 : decode cX8_duration 26 = .ok (.invokevirtual 219, 3) := by decide +kernel
theorem dX8_duration_29 : decode cX8_duration 29 = .ok (.aload_n 0, 1) := by decide +kernel
theorem dX8_duration_30 : decode cX8_duration 30 = .ok (.dload 4, 2) := by decide +kernel
theorem dX8_duration_32 : decode cX8_duration 32 = .ok (.iconst 0, 1) := by decide +kernel
theorem dX8_duration_33 : decode cX8_duration 33 = .ok (.invokevirtual 246, 3) := by decide +kernel
theorem dX8_duration_36 : decode cX8_duration 36 = .ok (.dstore 6, 2) := by decide +kernel
theorem dX8_duration_38 : decode cX8_duration 38 = .ok (.dload 6, 2) := by decide +kernel
theorem dX8_duration_40 : decode cX8_duration 40 = .ok (.dconst 0, 1) := by decide +kernel
theorem dX8_duration_41 : decode cX8_duration 41 = .ok (.dcmp .l, 1) := by decide +kernel
theorem dX8_duration_42 : decode cX8_duration 42 = .ok (.ifCond .ne 7, 3) := by decide +kernel
theorem dX8_duration_45 : decode cX8_duration 45 = .ok (.dconst 0, 1) := by decide +kernel
theorem dX8_duration_46 : decode cX8_duration 46 = .ok (.goto 13, 3) := by decide +kernel
theorem dX8_duration_49 : decode cX8_duration 49 = .ok (.aload_n 0, 1) := by decide +kernel
theorem dX8_duration_50 : decode cX8_duration 50 = .ok (.dload 4, 2) := by decide +kernel
theorem dX8_duration_52 : decode cX8_duration 52 = .ok (.iconst 1, 1) := by decide +kernel
theorem dX8_duration_53 : decode cX8_duration 53 = .ok (.invokevirtual 246, 3) := by decide +kernel
theorem dX8_duration_56 : decode cX8_duration 56 = .ok (.dload 6, 2) := by decide +kernel
theorem dX8_duration_58 : decode cX8_duration 58 = .ok (.ddiv, 1) := by decide +kernel
theorem dX8_duration_59 : decode cX8_duration 59 = .ok (.invokestatic 250, 3) := by decide +kernel
theorem dX8_duration_62 : decode cX8_duration 62 = .ok (.lreturn, 1) := by decide +kernel
theorem dX8_behind_0 : decode cX8_behind 0 = .ok (.iload_n 1, 1) := by decide +kernel
theorem dX8_behind_1 : decode cX8_behind 1 = .ok (.ifCond .ge 5, 3) := by decide +kernel
theorem dX8_behind_4 : decode cX8_behind 4 = .ok (.iconst (-1), 1) := by decide +kernel
theorem dX8_behind_5 : decode cX8_behind 5 = .ok (.ireturn, 1) := by decide +kernel
theorem dX8_behind_6 : decode cX8_behind 6 = .ok (.iconst 0, 1) := by decide +kernel
theorem dX8_behind_7 : decode cX8_behind 7 = .ok (.istore_n 2, 1) := by decide +kernel
theorem dX8_behind_8 : decode cX8_behind 8 = .ok (.iconst 0, 1) := by decide +kernel
theorem dX8_behind_9 : decode cX8_behind 9 = .ok (.istore_n 3, 1) := by decide +kernel
theorem dX8_behind_10 : decode cX8_behind 10 = .ok (.iload_n 3, 1) := by decide +kernel
theorem dX8_behind_11 : decode cX8_behind 11 = .ok (.i2l, 1) := by decide +kernel
theorem dX8_behind_12 : decode cX8_behind 12 = .ok (.aload_n 0, 1) := by decide +kernel
theorem dX8_behind_13 : decode cX8_behind 13 = .ok (.getfield 9, 3) := by decide +kernel
theorem dX8_behind_16 : decode cX8_behind 16 = .ok (.sipush 2520, 3) := by decide +kernel
theorem dX8_behind_19 : decode cX8_behind 19 = .ok (.laload, 1) := by decide +kernel
theorem dX8_behind_20 : decode cX8_behind 20 = .ok (.lcmp, 1) := by decide +kernel
theorem dX8_behind_21 : decode cX8_behind 21 = .ok (.ifCond .ge 53, 3) := by decide +kernel
theorem dX8_behind_24 : decode cX8_behind 24 = .ok (.iload_n 2, 1) := by decide +kernel
theorem dX8_behind_25 : decode cX8_behind 25 = .ok (.aload_n 0, 1) := by decide +kernel
theorem dX8_behind_26 : decode cX8_behind 26 = .ok (.iload_n 3, 1) := by decide +kernel
theorem dX8_behind_27 : decode cX8_behind 27 = .ok (.bipush 14, 2) := by decide +kernel
theorem dX8_behind_29 : decode cX8_behind 29 = .ok (.invokevirtual 136, 3) := by decide +kernel
theorem dX8_behind_32 : decode cX8_behind 32 = .ok (.lconst 0, 1) := by decide +kernel
theorem dX8_behind_33 : decode cX8_behind 33 = .ok (.lcmp, 1) := by decide +kernel
theorem dX8_behind_34 : decode cX8_behind 34 = .ok (.ifCond .le 31, 3) := by decide +kernel
theorem dX8_behind_37 : decode cX8_behind 37 = .ok (.aload_n 0, 1) := by decide +kernel
theorem dX8_behind_38 : decode cX8_behind 38 = .ok (.getfield 9, 3) := by decide +kernel
theorem dX8_behind_41 : decode cX8_behind 41 = .ok (.sipush 2521, 3) := by decide +kernel
theorem dX8_behind_44 : decode cX8_behind 44 = .ok (.laload, 1) := by decide +kernel
theorem dX8_behind_45 : decode cX8_behind 45 = .ok (.aload_n 0, 1) := by decide +kernel
theorem dX8_behind_46 : decode cX8_behind 46 = .ok (.iload_n 3, 1) := by decide +kernel
theorem dX8_behind_47 : decode cX8_behind 47 = .ok (.bipush 15, 2) := by decide +kernel
theorem dX8_behind_49 : decode cX8_behind 49 = .ok (.invokevirtual 136, 3) := by decide +kernel
theorem dX8_behind_52 : decode cX8_behind 52 = .ok (.lsub, 1) := by decide +kernel
theorem dX8_behind_53 : decode cX8_behind 53 = .ok (.iload_n 1, 1) := by decide +kernel
theorem dX8_behind_54 : decode cX8_behind 54 = .ok (.i2l, 1) := by decide +kernel
theorem dX8_behind_55 : decode cX8_behind 55 = .ok (.lcmp, 1) := by decide +kernel
theorem dX8_behind_56 : decode cX8_behind 56 = .ok (.ifCond .le 9, 3) := by decide +kernel
theorem dX8_behind_59 : decode cX8_behind 59 = .ok (.iconst 1, 1) := by decide +kernel
theorem dX8_behind_60 : decode cX8_behind 60 = .ok (.iload_n 3, 1) := by decide +kernel
theorem dX8_behind_61 : decode cX8_behind 61 = .ok (.ishl, 1) := by decide +kernel
theorem dX8_behind_62 : decode cX8_behind 62 = .ok (.goto 4, 3) := by decide +kernel
theorem dX8_behind_65 : decode cX8_behind 65 = .ok (.iconst 0, 1) := by decide +kernel
theorem dX8_behind_66 : decode cX8_behind 66 = .ok (.ior, 1) := by decide +kernel
theorem dX8_behind_67 : decode cX8_behind 67 = .ok (.istore_n 2, 1) := by decide +kernel
theorem dX8_behind_68 : decode cX8_behind 68 = .ok (.iinc 3 1, 3) := by decide +kernel
theorem dX8_behind_71 : decode cX8_behind 71 = .ok (.goto (-61), 3) := by decide +kernel
theorem dX8_behind_74 : decode cX8_behind 74 = .ok (.iload_n 2, 1) := by decide +kernel
theorem dX8_behind_75 : decode cX8_behind 75 = .ok (.ireturn, 1) := by decide +kernel
theorem dX8_settles_0 : decode cX8_settles 0 = .ok (.aload_n 0, 1) := by decide +kernel
theorem dX8_settles_1 : decode cX8_settles 1 = .ok (.iload_n 1, 1) := by decide +kernel
theorem dX8_settles_2 : decode cX8_settles 2 = .ok (.invokevirtual 197, 3) := by decide +kernel
theorem dX8_settles_5 : decode cX8_settles 5 = .ok (.ifCond .ne 5, 3) := by decide +kernel
theorem dX8_settles_8 : decode cX8_settles 8 = .ok (.iconst (-1), 1) := by decide +kernel
theorem dX8_settles_9 : decode cX8_settles 9 = .ok (.ireturn, 1) := by decide +kernel
theorem dX8_settles_10 : decode cX8_settles 10 = .ok (.aload_n 0, 1) := by decide +kernel
theorem dX8_settles_11 : decode cX8_settles 11 = .ok (.iload_n 1, 1) := by decide +kernel
theorem dX8_settles_12 : decode cX8_settles 12 = .ok (.iconst 4, 1) := by decide +kernel
theorem dX8_settles_13 : decode cX8_settles 13 = .ok (.invokevirtual 136, 3) := by decide +kernel
theorem dX8_settles_16 : decode cX8_settles 16 = .ok (.l2i, 1) := by decide +kernel
theorem dX8_settles_17 : decode cX8_settles 17 = .ok (.istore_n 2, 1) := by decide +kernel
theorem dX8_settles_18 : decode cX8_settles 18 = .ok (.aload_n 0, 1) := by decide +kernel
theorem dX8_settles_19 : decode cX8_settles 19 = .ok (.iload_n 1, 1) := by decide +kernel
theorem dX8_settles_20 : decode cX8_settles 20 = .ok (.bipush 7, 2) := by decide +kernel
theorem dX8_settles_22 : decode cX8_settles 22 = .ok (.invokevirtual 136, 3) := by decide +kernel
theorem dX8_settles_25 : decode cX8_settles 25 = .ok (.iload_n 2, 1) := by decide +kernel
theorem dX8_settles_26 : decode cX8_settles 26 = .ok (.i2l, 1) := by decide +kernel
theorem dX8_settles_27 : decode cX8_settles 27 = .ok (.lcmp, 1) := by decide +kernel
theorem dX8_settles_28 : decode cX8_settles 28 = .ok (.ifCond .ne 7, 3) := by decide +kernel
theorem dX8_settles_31 : decode cX8_settles 31 = .ok (.iconst 0, 1) := by decide +kernel
theorem dX8_settles_32 : decode cX8_settles 32 = .ok (.goto 19, 3) := by decide +kernel
theorem dX8_settles_35 : decode cX8_settles 35 = .ok (.aload_n 0, 1) := by decide +kernel
theorem dX8_settles_36 : decode cX8_settles 36 = .ok (.iload_n 1, 1) := by decide +kernel
theorem dX8_settles_37 : decode cX8_settles 37 = .ok (.iload_n 2, 1) := by decide +kernel
theorem dX8_settles_38 : decode cX8_settles 38 = .ok (.invokevirtual 143, 3) := by decide +kernel
theorem dX8_settles_41 : decode cX8_settles 41 = .ok (.aload_n 0, 1) := by decide +kernel
theorem dX8_settles_42 : decode cX8_settles 42 = .ok (.getfield 9, 3) := by decide +kernel
theorem dX8_settles_45 : decode cX8_settles 45 = .ok (.sipush 2521, 3) := by decide +kernel
theorem dX8_settles_48 : decode cX8_settles 48 = .ok (.laload, 1) := by decide +kernel
theorem dX8_settles_49 : decode cX8_settles 49 = .ok (.l2i, 1) := by decide +kernel
theorem dX8_settles_50 : decode cX8_settles 50 = .ok (.isub, 1) := by decide +kernel
theorem dX8_settles_51 : decode cX8_settles 51 = .ok (.ireturn, 1) := by decide +kernel
theorem dX8_would_0 : decode cX8_would 0 = .ok (.aload_n 0, 1) := by decide +kernel
theorem dX8_would_1 : decode cX8_would 1 = .ok (.iload_n 1, 1) := by decide +kernel
theorem dX8_would_2 : decode cX8_would 2 = .ok (.lload_n 2, 1) := by decide +kernel
theorem dX8_would_3 : decode cX8_would 3 = .ok (.invokevirtual 202, 3) := by decide +kernel
theorem dX8_would_6 : decode cX8_would 6 = .ok (.ifCond .eq 16, 3) := by decide +kernel
theorem dX8_would_9 : decode cX8_would 9 = .ok (.iload 4, 2) := by decide +kernel
theorem dX8_would_11 : decode cX8_would 11 = .ok (.i2l, 1) := by decide +kernel
theorem dX8_would_12 : decode cX8_would 12 = .ok (.lconst 0, 1) := by decide +kernel
theorem dX8_would_13 : decode cX8_would 13 = .ok (.ldc2_w 265, 3) := by decide +kernel
theorem dX8_would_16 : decode cX8_would 16 = .ok (.invokestatic 85, 3) := by decide +kernel
theorem dX8_would_19 : decode cX8_would 19 = .ok (.ifCond .ne 7, 3) := by decide +kernel
theorem dX8_would_22 : decode cX8_would 22 = .ok (.ldc2_w 134, 3) := by decide +kernel
theorem dX8_would_25 : decode cX8_would 25 = .ok (.lreturn, 1) := by decide +kernel
theorem dX8_would_26 : decode cX8_would 26 = .ok (.aload_n 0, 1) := by decide +kernel
theorem dX8_would_27 : decode cX8_would 27 = .ok (.getfield 9, 3) := by decide +kernel
theorem dX8_would_30 : decode cX8_would 30 = .ok (.aload_n 0, 1) := by decide +kernel
theorem dX8_would_31 : decode cX8_would 31 = .ok (.getfield 13, 3) := by decide +kernel
theorem dX8_would_34 : decode cX8_would 34 = .ok (.invokestatic 267, 3) := by decide +kernel
theorem dX8_would_37 : decode cX8_would 37 = .ok (.aload_n 0, 1) := by decide +kernel
theorem dX8_would_38 : decode cX8_would 38 = .ok (.iload_n 1, 1) := by decide +kernel
theorem dX8_would_39 : decode cX8_would 39 = .ok (.lload_n 2, 1) := by decide +kernel
theorem dX8_would_40 : decode cX8_would 40 = .ok (.invokevirtual 205, 3) := by decide +kernel
theorem dX8_would_43 : decode cX8_would 43 = .ok (.aload_n 0, 1) := by decide +kernel
theorem dX8_would_44 : decode cX8_would 44 = .ok (.getfield 13, 3) := by decide +kernel
theorem dX8_would_47 : decode cX8_would 47 = .ok (.aload_n 0, 1) := by decide +kernel
theorem dX8_would_48 : decode cX8_would 48 = .ok (.getfield 9, 3) := by decide +kernel
theorem dX8_would_51 : decode cX8_would 51 = .ok (.invokestatic 267, 3) := by decide +kernel
theorem dX8_would_54 : decode cX8_would 54 = .ok (.aload_n 0, 1) := by decide +kernel
theorem dX8_would_55 : decode cX8_would 55 = .ok (.getfield 35, 3) := by decide +kernel
theorem dX8_would_58 : decode cX8_would 58 = .ok (.iload 4, 2) := by decide +kernel
theorem dX8_would_60 : decode cX8_would 60 = .ok (.laload, 1) := by decide +kernel
theorem dX8_would_61 : decode cX8_would 61 = .ok (.lreturn, 1) := by decide +kernel
theorem dX8_lastPrincipal_0 : decode cX8_lastPrincipal 0 = .ok (.aload_n 0, 1) := by decide +kernel
theorem dX8_lastPrincipal_1 : decode cX8_lastPrincipal 1 = .ok (.iload_n 1, 1) := by decide +kernel
theorem dX8_lastPrincipal_2 : decode cX8_lastPrincipal 2 = .ok (.invokevirtual 219, 3) := by decide +kernel
theorem dX8_lastPrincipal_5 : decode cX8_lastPrincipal 5 = .ok (.iconst 0, 1) := by decide +kernel
theorem dX8_lastPrincipal_6 : decode cX8_lastPrincipal 6 = .ok (.istore_n 2, 1) := by decide +kernel
theorem dX8_lastPrincipal_7 : decode cX8_lastPrincipal 7 = .ok (.iconst 0, 1) := by decide +kernel
theorem dX8_lastPrincipal_8 : decode cX8_lastPrincipal 8 = .ok (.istore_n 3, 1) := by decide +kernel
theorem dX8_lastPrincipal_9 : decode cX8_lastPrincipal 9 = .ok (.iload_n 3, 1) := by decide +kernel
theorem dX8_lastPrincipal_10 : decode cX8_lastPrincipal 10 = .ok (.aload_n 0, 1) := by decide +kernel
theorem dX8_lastPrincipal_11 : decode cX8_lastPrincipal 11 = .ok (.getfield 222, 3) := by decide +kernel
theorem dX8_lastPrincipal_14 : decode cX8_lastPrincipal 14 = .ok (.if_icmp .ge 28, 3) := by decide +kernel
theorem dX8_lastPrincipal_17 : decode cX8_lastPrincipal 17 = .ok (.aload_n 0, 1) := by decide +kernel
theorem dX8_lastPrincipal_18 : decode cX8_lastPrincipal 18 = .ok (.getfield 29, 3) := by decide +kernel
theorem dX8_lastPrincipal_21 : decode cX8_lastPrincipal 21 = .ok (.iload_n 3, 1) := by decide +kernel
theorem dX8_lastPrincipal_22 : decode cX8_lastPrincipal 22 = .ok (.laload, 1) := by decide +kernel
theorem dX8_lastPrincipal_23 : decode cX8_lastPrincipal 23 = .ok (.lconst 0, 1) := by decide +kernel
theorem dX8_lastPrincipal_24 : decode cX8_lastPrincipal 24 = .ok (.lcmp, 1) := by decide +kernel
theorem dX8_lastPrincipal_25 : decode cX8_lastPrincipal 25 = .ok (.ifCond .le 9, 3) := by decide +kernel
theorem dX8_lastPrincipal_28 : decode cX8_lastPrincipal 28 = .ok (.iload_n 3, 1) := by decide +kernel
theorem dX8_lastPrincipal_29 : decode cX8_lastPrincipal 29 = .ok (.iconst 1, 1) := by decide +kernel
theorem dX8_lastPrincipal_30 : decode cX8_lastPrincipal 30 = .ok (.iadd, 1) := by decide +kernel
theorem dX8_lastPrincipal_31 : decode cX8_lastPrincipal 31 = .ok (.goto 4, 3) := by decide +kernel
theorem dX8_lastPrincipal_34 : decode cX8_lastPrincipal 34 = .ok (.iload_n 2, 1) := by decide +kernel
theorem dX8_lastPrincipal_35 : decode cX8_lastPrincipal 35 = .ok (.istore_n 2, 1) := by decide +kernel
theorem dX8_lastPrincipal_36 : decode cX8_lastPrincipal 36 = .ok (.iinc 3 1, 3) := by decide +kernel
theorem dX8_lastPrincipal_39 : decode cX8_lastPrincipal 39 = .ok (.goto (-30), 3) := by decide +kernel
theorem dX8_lastPrincipal_42 : decode cX8_lastPrincipal 42 = .ok (.iload_n 2, 1) := by decide +kernel
theorem dX8_lastPrincipal_43 : decode cX8_lastPrincipal 43 = .ok (.ireturn, 1) := by decide +kernel
theorem dX8_sooner_0 : decode cX8_sooner 0 = .ok (.aload_n 0, 1) := by decide +kernel
theorem dX8_sooner_1 : decode cX8_sooner 1 = .ok (.iload_n 1, 1) := by decide +kernel
theorem dX8_sooner_2 : decode cX8_sooner 2 = .ok (.lload_n 2, 1) := by decide +kernel
theorem dX8_sooner_3 : decode cX8_sooner 3 = .ok (.invokevirtual 202, 3) := by decide +kernel
theorem dX8_sooner_6 : decode cX8_sooner 6 = .ok (.ifCond .ne 5, 3) := by decide +kernel
theorem dX8_sooner_9 : decode cX8_sooner 9 = .ok (.iconst (-1), 1) := by decide +kernel
theorem dX8_sooner_10 : decode cX8_sooner 10 = .ok (.ireturn, 1) := by decide +kernel
theorem dX8_sooner_11 : decode cX8_sooner 11 = .ok (.aload_n 0, 1) := by decide +kernel
theorem dX8_sooner_12 : decode cX8_sooner 12 = .ok (.iload_n 1, 1) := by decide +kernel
theorem dX8_sooner_13 : decode cX8_sooner 13 = .ok (.invokevirtual 271, 3) := by decide +kernel
theorem dX8_sooner_16 : decode cX8_sooner 16 = .ok (.istore 4, 2) := by decide +kernel
theorem dX8_sooner_18 : decode cX8_sooner 18 = .ok (.aload_n 0, 1) := by decide +kernel
end
section
theorem dX8_sooner_19 : decode cX8_sooner 19 = .ok (.getfield 9, 3) := by decide +kernel
theorem dX8_sooner_22 : decode cX8_sooner 22 = .ok (.aload_n 0, 1) := by decide +kernel
theorem dX8_sooner_23 : decode cX8_sooner 23 = .ok (.getfield 13, 3) := by decide +kernel
theorem dX8_sooner_26 : decode cX8_sooner 26 = .ok (.invokestatic 267, 3) := by decide +kernel
theorem dX8_sooner_29 : decode cX8_sooner 29 = .ok (.aload_n 0, 1) := by decide +kernel
theorem dX8_sooner_30 : decode cX8_sooner 30 = .ok (.iload_n 1, 1) := by decide +kernel
theorem dX8_sooner_31 : decode cX8_sooner 31 = .ok (.lload_n 2, 1) := by decide +kernel
theorem dX8_sooner_32 : decode cX8_sooner 32 = .ok (.invokevirtual 205, 3) := by decide +kernel
theorem dX8_sooner_35 : decode cX8_sooner 35 = .ok (.aload_n 0, 1) := by decide +kernel
theorem dX8_sooner_36 : decode cX8_sooner 36 = .ok (.iload_n 1, 1) := by decide +kernel
theorem dX8_sooner_37 : decode cX8_sooner 37 = .ok (.invokevirtual 271, 3) := by decide +kernel
theorem dX8_sooner_40 : decode cX8_sooner 40 = .ok (.istore 5, 2) := by decide +kernel
theorem dX8_sooner_42 : decode cX8_sooner 42 = .ok (.aload_n 0, 1) := by decide +kernel
theorem dX8_sooner_43 : decode cX8_sooner 43 = .ok (.getfield 13, 3) := by decide +kernel
theorem dX8_sooner_46 : decode cX8_sooner 46 = .ok (.aload_n 0, 1) := by decide +kernel
theorem dX8_sooner_47 : decode cX8_sooner 47 = .ok (.getfield 9, 3) := by decide +kernel
theorem dX8_sooner_50 : decode cX8_sooner 50 = .ok (.invokestatic 267, 3) := by decide +kernel
theorem dX8_sooner_53 : decode cX8_sooner 53 = .ok (.iload 4, 2) := by decide +kernel
theorem dX8_sooner_55 : decode cX8_sooner 55 = .ok (.iload 5, 2) := by decide +kernel
theorem dX8_sooner_57 : decode cX8_sooner 57 = .ok (.if_icmp .le 11, 3) := by decide +kernel
theorem dX8_sooner_60 : decode cX8_sooner 60 = .ok (.iload 4, 2) := by decide +kernel
theorem dX8_sooner_62 : decode cX8_sooner 62 = .ok (.iload 5, 2) := by decide +kernel
theorem dX8_sooner_64 : decode cX8_sooner 64 = .ok (.isub, 1) := by decide +kernel
theorem dX8_sooner_65 : decode cX8_sooner 65 = .ok (.goto 4, 3) := by decide +kernel
theorem dX8_sooner_68 : decode cX8_sooner 68 = .ok (.iconst 0, 1) := by decide +kernel
theorem dX8_sooner_69 : decode cX8_sooner 69 = .ok (.ireturn, 1) := by decide +kernel
theorem dX8_isHolder_0 : decode cX8_isHolder 0 = .ok (.iload_n 1, 1) := by decide +kernel
theorem dX8_isHolder_1 : decode cX8_isHolder 1 = .ok (.i2l, 1) := by decide +kernel
theorem dX8_isHolder_2 : decode cX8_isHolder 2 = .ok (.lconst 0, 1) := by decide +kernel
theorem dX8_isHolder_3 : decode cX8_isHolder 3 = .ok (.ldc2_w 265, 3) := by decide +kernel
theorem dX8_isHolder_6 : decode cX8_isHolder 6 = .ok (.invokestatic 85, 3) := by decide +kernel
theorem dX8_isHolder_9 : decode cX8_isHolder 9 = .ok (.ireturn, 1) := by decide +kernel
theorem dX8_judge_0 : decode cX8_judge 0 = .ok (.aload_n 0, 1) := by decide +kernel
theorem dX8_judge_1 : decode cX8_judge 1 = .ok (.iload_n 1, 1) := by decide +kernel
theorem dX8_judge_2 : decode cX8_judge 2 = .ok (.invokevirtual 274, 3) := by decide +kernel
theorem dX8_judge_5 : decode cX8_judge 5 = .ok (.ifCond .eq 11, 3) := by decide +kernel
theorem dX8_judge_8 : decode cX8_judge 8 = .ok (.aload_n 0, 1) := by decide +kernel
theorem dX8_judge_9 : decode cX8_judge 9 = .ok (.iload_n 2, 1) := by decide +kernel
theorem dX8_judge_10 : decode cX8_judge 10 = .ok (.invokevirtual 197, 3) := by decide +kernel
theorem dX8_judge_13 : decode cX8_judge 13 = .ok (.ifCond .ne 5, 3) := by decide +kernel
theorem dX8_judge_16 : decode cX8_judge 16 = .ok (.iconst (-1), 1) := by decide +kernel
theorem dX8_judge_17 : decode cX8_judge 17 = .ok (.ireturn, 1) := by decide +kernel
theorem dX8_judge_18 : decode cX8_judge 18 = .ok (.aload_n 0, 1) := by decide +kernel
theorem dX8_judge_19 : decode cX8_judge 19 = .ok (.getfield 41, 3) := by decide +kernel
theorem dX8_judge_22 : decode cX8_judge 22 = .ok (.iload_n 1, 1) := by decide +kernel
theorem dX8_judge_23 : decode cX8_judge 23 = .ok (.iaload, 1) := by decide +kernel
theorem dX8_judge_24 : decode cX8_judge 24 = .ok (.iconst 3, 1) := by decide +kernel
theorem dX8_judge_25 : decode cX8_judge 25 = .ok (.if_icmp .eq 20, 3) := by decide +kernel
theorem dX8_judge_28 : decode cX8_judge 28 = .ok (.aload_n 0, 1) := by decide +kernel
theorem dX8_judge_29 : decode cX8_judge 29 = .ok (.getfield 41, 3) := by decide +kernel
theorem dX8_judge_32 : decode cX8_judge 32 = .ok (.iload_n 1, 1) := by decide +kernel
theorem dX8_judge_33 : decode cX8_judge 33 = .ok (.iaload, 1) := by decide +kernel
theorem dX8_judge_34 : decode cX8_judge 34 = .ok (.ifCond .ne 8, 3) := by decide +kernel
theorem dX8_judge_37 : decode cX8_judge 37 = .ok (.bipush (-11), 2) := by decide +kernel
theorem dX8_judge_39 : decode cX8_judge 39 = .ok (.goto 5, 3) := by decide +kernel
theorem dX8_judge_42 : decode cX8_judge 42 = .ok (.bipush (-12), 2) := by decide +kernel
theorem dX8_judge_44 : decode cX8_judge 44 = .ok (.ireturn, 1) := by decide +kernel
theorem dX8_judge_45 : decode cX8_judge 45 = .ok (.aload_n 0, 1) := by decide +kernel
theorem dX8_judge_46 : decode cX8_judge 46 = .ok (.iload_n 2, 1) := by decide +kernel
theorem dX8_judge_47 : decode cX8_judge 47 = .ok (.invokevirtual 219, 3) := by decide +kernel
theorem dX8_judge_50 : decode cX8_judge 50 = .ok (.iconst 0, 1) := by decide +kernel
theorem dX8_judge_51 : decode cX8_judge 51 = .ok (.istore_n 3, 1) := by decide +kernel
theorem dX8_judge_52 : decode cX8_judge 52 = .ok (.iload_n 3, 1) := by decide +kernel
theorem dX8_judge_53 : decode cX8_judge 53 = .ok (.aload_n 0, 1) := by decide +kernel
theorem dX8_judge_54 : decode cX8_judge 54 = .ok (.getfield 53, 3) := by decide +kernel
theorem dX8_judge_57 : decode cX8_judge 57 = .ok (.iload_n 1, 1) := by decide +kernel
theorem dX8_judge_58 : decode cX8_judge 58 = .ok (.iaload, 1) := by decide +kernel
theorem dX8_judge_59 : decode cX8_judge 59 = .ok (.if_icmp .ge 42, 3) := by decide +kernel
theorem dX8_judge_62 : decode cX8_judge 62 = .ok (.aload_n 0, 1) := by decide +kernel
theorem dX8_judge_63 : decode cX8_judge 63 = .ok (.iload_n 3, 1) := by decide +kernel
theorem dX8_judge_64 : decode cX8_judge 64 = .ok (.invokevirtual 231, 3) := by decide +kernel
theorem dX8_judge_67 : decode cX8_judge 67 = .ok (.istore 4, 2) := by decide +kernel
theorem dX8_judge_69 : decode cX8_judge 69 = .ok (.iload 4, 2) := by decide +kernel
theorem dX8_judge_71 : decode cX8_judge 71 = .ok (.ifCond .lt 22, 3) := by decide +kernel
theorem dX8_judge_74 : decode cX8_judge 74 = .ok (.aload_n 0, 1) := by decide +kernel
theorem dX8_judge_75 : decode cX8_judge 75 = .ok (.getfield 29, 3) := by decide +kernel
theorem dX8_judge_78 : decode cX8_judge 78 = .ok (.iload 4, 2) := by decide +kernel
theorem dX8_judge_80 : decode cX8_judge 80 = .ok (.laload, 1) := by decide +kernel
theorem dX8_judge_81 : decode cX8_judge 81 = .ok (.aload_n 0, 1) := by decide +kernel
theorem dX8_judge_82 : decode cX8_judge 82 = .ok (.getfield 58, 3) := by decide +kernel
theorem dX8_judge_85 : decode cX8_judge 85 = .ok (.iload_n 1, 1) := by decide +kernel
theorem dX8_judge_86 : decode cX8_judge 86 = .ok (.aaload, 1) := by decide +kernel
theorem dX8_judge_87 : decode cX8_judge 87 = .ok (.iload_n 3, 1) := by decide +kernel
theorem dX8_judge_88 : decode cX8_judge 88 = .ok (.laload, 1) := by decide +kernel
theorem dX8_judge_89 : decode cX8_judge 89 = .ok (.lcmp, 1) := by decide +kernel
theorem dX8_judge_90 : decode cX8_judge 90 = .ok (.ifCond .eq 5, 3) := by decide +kernel
theorem dX8_judge_93 : decode cX8_judge 93 = .ok (.iload_n 3, 1) := by decide +kernel
theorem dX8_judge_94 : decode cX8_judge 94 = .ok (.ireturn, 1) := by decide +kernel
theorem dX8_judge_95 : decode cX8_judge 95 = .ok (.iinc 3 1, 3) := by decide +kernel
theorem dX8_judge_98 : decode cX8_judge 98 = .ok (.goto (-46), 3) := by decide +kernel
theorem dX8_judge_101 : decode cX8_judge 101 = .ok (.aload_n 0, 1) := by decide +kernel
theorem dX8_judge_102 : decode cX8_judge 102 = .ok (.aload_n 0, 1) := by decide +kernel
theorem dX8_judge_103 : decode cX8_judge 103 = .ok (.getfield 53, 3) := by decide +kernel
theorem dX8_judge_106 : decode cX8_judge 106 = .ok (.iload_n 1, 1) := by decide +kernel
theorem dX8_judge_107 : decode cX8_judge 107 = .ok (.iaload, 1) := by decide +kernel
theorem dX8_judge_108 : decode cX8_judge 108 = .ok (.invokevirtual 231, 3) := by decide +kernel
theorem dX8_judge_111 : decode cX8_judge 111 = .ok (.ifCond .lt 12, 3) := by decide +kernel
theorem dX8_judge_114 : decode cX8_judge 114 = .ok (.aload_n 0, 1) := by decide +kernel
theorem dX8_judge_115 : decode cX8_judge 115 = .ok (.getfield 53, 3) := by decide +kernel
theorem dX8_judge_118 : decode cX8_judge 118 = .ok (.iload_n 1, 1) := by decide +kernel
theorem dX8_judge_119 : decode cX8_judge 119 = .ok (.iaload, 1) := by decide +kernel
theorem dX8_judge_120 : decode cX8_judge 120 = .ok (.goto 5, 3) := by decide +kernel
theorem dX8_judge_123 : decode cX8_judge 123 = .ok (.bipush (-2), 2) := by decide +kernel
theorem dX8_judge_125 : decode cX8_judge 125 = .ok (.ireturn, 1) := by decide +kernel
theorem dX8_feed_0 : decode cX8_feed 0 = .ok (.iload_n 1, 1) := by decide +kernel
theorem dX8_feed_1 : decode cX8_feed 1 = .ok (.i2l, 1) := by decide +kernel
theorem dX8_feed_2 : decode cX8_feed 2 = .ok (.lconst 0, 1) := by decide +kernel
theorem dX8_feed_3 : decode cX8_feed 3 = .ok (.ldc2_w 277, 3) := by decide +kernel
theorem dX8_feed_6 : decode cX8_feed 6 = .ok (.invokestatic 85, 3) := by decide +kernel
theorem dX8_feed_9 : decode cX8_feed 9 = .ok (.ifCond .ne 5, 3) := by decide +kernel
theorem dX8_feed_12 : decode cX8_feed 12 = .ok (.iconst (-1), 1) := by decide +kernel
theorem dX8_feed_13 : decode cX8_feed 13 = .ok (.ireturn, 1) := by decide +kernel
theorem dX8_feed_14 : decode cX8_feed 14 = .ok (.aload_n 0, 1) := by decide +kernel
theorem dX8_feed_15 : decode cX8_feed 15 = .ok (.getfield 279, 3) := by decide +kernel
theorem dX8_feed_18 : decode cX8_feed 18 = .ok (.bipush 120, 2) := by decide +kernel
theorem dX8_feed_20 : decode cX8_feed 20 = .ok (.if_icmp .ne 6, 3) := by decide +kernel
theorem dX8_feed_23 : decode cX8_feed 23 = .ok (.bipush (-3), 2) := by decide +kernel
theorem dX8_feed_25 : decode cX8_feed 25 = .ok (.ireturn, 1) := by decide +kernel
theorem dX8_feed_26 : decode cX8_feed 26 = .ok (.aload_n 0, 1) := by decide +kernel
theorem dX8_feed_27 : decode cX8_feed 27 = .ok (.getfield 38, 3) := by decide +kernel
theorem dX8_feed_30 : decode cX8_feed 30 = .ok (.aload_n 0, 1) := by decide +kernel
theorem dX8_feed_31 : decode cX8_feed 31 = .ok (.dup, 1) := by decide +kernel
theorem dX8_feed_32 : decode cX8_feed 32 = .ok (.getfield 279, 3) := by decide +kernel
theorem dX8_feed_35 : decode cX8_feed 35 = .ok (.dup_x1, 1) := by decide +kernel
theorem dX8_feed_36 : decode cX8_feed 36 = .ok (.iconst 1, 1) := by decide +kernel
theorem dX8_feed_37 : decode cX8_feed 37 = .ok (.iadd, 1) := by decide +kernel
theorem dX8_feed_38 : decode cX8_feed 38 = .ok (.putfield 279, 3) := by decide +kernel
theorem dX8_feed_41 : decode cX8_feed 41 = .ok (.iload_n 1, 1) := by decide +kernel
theorem dX8_feed_42 : decode cX8_feed 42 = .ok (.iastore, 1) := by decide +kernel
theorem dX8_feed_43 : decode cX8_feed 43 = .ok (.aload_n 0, 1) := by decide +kernel
theorem dX8_feed_44 : decode cX8_feed 44 = .ok (.getfield 279, 3) := by decide +kernel
theorem dX8_feed_47 : decode cX8_feed 47 = .ok (.ireturn, 1) := by decide +kernel
theorem dX8_sees_0 : decode cX8_sees 0 = .ok (.aload_n 0, 1) := by decide +kernel
theorem dX8_sees_1 : decode cX8_sees 1 = .ok (.getfield 282, 3) := by decide +kernel
theorem dX8_sees_4 : decode cX8_sees 4 = .ok (.ifCond .ge 38, 3) := by decide +kernel
theorem dX8_sees_7 : decode cX8_sees 7 = .ok (.aload_n 0, 1) := by decide +kernel
theorem dX8_sees_8 : decode cX8_sees 8 = .ok (.getfield 285, 3) := by decide +kernel
theorem dX8_sees_11 : decode cX8_sees 11 = .ok (.aload_n 0, 1) := by decide +kernel
theorem dX8_sees_12 : decode cX8_sees 12 = .ok (.getfield 279, 3) := by decide +kernel
theorem dX8_sees_15 : decode cX8_sees 15 = .ok (.if_icmp .ge 27, 3) := by decide +kernel
theorem dX8_sees_18 : decode cX8_sees 18 = .ok (.aload_n 0, 1) := by decide +kernel
theorem dX8_sees_19 : decode cX8_sees 19 = .ok (.getfield 38, 3) := by decide +kernel
theorem dX8_sees_22 : decode cX8_sees 22 = .ok (.aload_n 0, 1) := by decide +kernel
theorem dX8_sees_23 : decode cX8_sees 23 = .ok (.getfield 285, 3) := by decide +kernel
theorem dX8_sees_26 : decode cX8_sees 26 = .ok (.iaload, 1) := by decide +kernel
theorem dX8_sees_27 : decode cX8_sees 27 = .ok (.i2l, 1) := by decide +kernel
theorem dX8_sees_28 : decode cX8_sees 28 = .ok (.iload_n 1, 1) := by decide +kernel
theorem dX8_sees_29 : decode cX8_sees 29 = .ok (.i2l, 1) := by decide +kernel
theorem dX8_sees_30 : decode cX8_sees 30 = .ok (.iload_n 2, 1) := by decide +kernel
theorem dX8_sees_31 : decode cX8_sees 31 = .ok (.i2l, 1) := by decide +kernel
theorem dX8_sees_32 : decode cX8_sees 32 = .ok (.invokestatic 85, 3) := by decide +kernel
theorem dX8_sees_35 : decode cX8_sees 35 = .ok (.ifCond .eq 7, 3) := by decide +kernel
theorem dX8_sees_38 : decode cX8_sees 38 = .ok (.iconst 1, 1) := by decide +kernel
theorem dX8_sees_39 : decode cX8_sees 39 = .ok (.goto 4, 3) := by decide +kernel
theorem dX8_sees_42 : decode cX8_sees 42 = .ok (.iconst 0, 1) := by decide +kernel
theorem dX8_sees_43 : decode cX8_sees 43 = .ok (.ireturn, 1) := by decide +kernel
theorem dX8_must_0 : decode cX8_must 0 = .ok (.aload_n 0, 1) := by decide +kernel
theorem dX8_must_1 : decode cX8_must 1 = .ok (.iload_n 1, 1) := by decide +kernel
theorem dX8_must_2 : decode cX8_must 2 = .ok (.iload_n 2, 1) := by decide +kernel
theorem dX8_must_3 : decode cX8_must 3 = .ok (.invokevirtual 288, 3) := by decide +kernel
theorem dX8_must_6 : decode cX8_must 6 = .ok (.ifCond .ne 27, 3) := by decide +kernel
theorem dX8_must_9 : decode cX8_must 9 = .ok (.aload_n 0, 1) := by decide +kernel
theorem dX8_must_10 : decode cX8_must 10 = .ok (.aload_n 0, 1) := by decide +kernel
theorem dX8_must_11 : decode cX8_must 11 = .ok (.getfield 282, 3) := by decide +kernel
theorem dX8_must_14 : decode cX8_must 14 = .ok (.ifCond .ge 10, 3) := by decide +kernel
theorem dX8_must_17 : decode cX8_must 17 = .ok (.aload_n 0, 1) := by decide +kernel
theorem dX8_must_18 : decode cX8_must 18 = .ok (.getfield 285, 3) := by decide +kernel
theorem dX8_must_21 : decode cX8_must 21 = .ok (.goto 7, 3) := by decide +kernel
theorem dX8_must_24 : decode cX8_must 24 = .ok (.aload_n 0, 1) := by decide +kernel
theorem dX8_must_25 : decode cX8_must 25 = .ok (.getfield 282, 3) := by decide +kernel
theorem dX8_must_28 : decode cX8_must 28 = .ok (.putfield 282, 3) := by decide +kernel
theorem dX8_must_31 : decode cX8_must 31 = .ok (.iload_n 1, 1) := by decide +kernel
theorem dX8_must_32 : decode cX8_must 32 = .ok (.ireturn, 1) := by decide +kernel
theorem dX8_must_33 : decode cX8_must 33 = .ok (.aload_n 0, 1) := by decide +kernel
theorem dX8_must_34 : decode cX8_must 34 = .ok (.getfield 38, 3) := by decide +kernel
theorem dX8_must_37 : decode cX8_must 37 = .ok (.aload_n 0, 1) := by decide +kernel
theorem dX8_must_38 : decode cX8_must 38 = .ok (.dup, 1) := by decide +kernel
theorem dX8_must_39 : decode cX8_must 39 = .ok (.getfield 285, 3) := by decide +kernel
theorem dX8_must_42 : decode cX8_must 42 = .ok (.dup_x1, 1) := by decide +kernel
theorem dX8_must_43 : decode cX8_must 43 = .ok (.iconst 1, 1) := by decide +kernel
theorem dX8_must_44 : decode cX8_must 44 = .ok (.iadd, 1) := by decide +kernel
theorem dX8_must_45 : decode cX8_must 45 = .ok (.putfield 285, 3) := by decide +kernel
theorem dX8_must_48 : decode cX8_must 48 = .ok (.iaload, 1) := by decide +kernel
theorem dX8_must_49 : decode cX8_must 49 = .ok (.ireturn, 1) := by decide +kernel
theorem dX8_number_0 : decode cX8_number 0 = .ok (.aload_n 0, 1) := by decide +kernel
theorem dX8_number_1 : decode cX8_number 1 = .ok (.bipush 32, 2) := by decide +kernel
theorem dX8_number_3 : decode cX8_number 3 = .ok (.bipush 32, 2) := by decide +kernel
theorem dX8_number_5 : decode cX8_number 5 = .ok (.invokevirtual 292, 3) := by decide +kernel
theorem dX8_number_8 : decode cX8_number 8 = .ok (.pop, 1) := by decide +kernel
theorem dX8_number_9 : decode cX8_number 9 = .ok (.aload_n 0, 1) := by decide +kernel
theorem dX8_number_10 : decode cX8_number 10 = .ok (.bipush 48, 2) := by decide +kernel
theorem dX8_number_12 : decode cX8_number 12 = .ok (.bipush 57, 2) := by decide +kernel
theorem dX8_number_14 : decode cX8_number 14 = .ok (.invokevirtual 292, 3) := by decide +kernel
theorem dX8_number_17 : decode cX8_number 17 = .ok (.bipush 48, 2) := by decide +kernel
theorem dX8_number_19 : decode cX8_number 19 = .ok (.isub, 1) := by decide +kernel
theorem dX8_number_20 : decode cX8_number 20 = .ok (.istore_n 1, 1) := by decide +kernel
theorem dX8_number_21 : decode cX8_number 21 = .ok (.iconst 0, 1) := by decide +kernel
theorem dX8_number_22 : decode cX8_number 22 = .ok (.istore_n 2, 1) := by decide +kernel
theorem dX8_number_23 : decode cX8_number 23 = .ok (.iload_n 2, 1) := by decide +kernel
theorem dX8_number_24 : decode cX8_number 24 = .ok (.bipush 8, 2) := by decide +kernel
theorem dX8_number_26 : decode cX8_number 26 = .ok (.if_icmp .ge 45, 3) := by decide +kernel
theorem dX8_number_29 : decode cX8_number 29 = .ok (.aload_n 0, 1) := by decide +kernel
theorem dX8_number_30 : decode cX8_number 30 = .ok (.bipush 48, 2) := by decide +kernel
theorem dX8_number_32 : decode cX8_number 32 = .ok (.bipush 57, 2) := by decide +kernel
theorem dX8_number_34 : decode cX8_number 34 = .ok (.invokevirtual 288, 3) := by decide +kernel
theorem dX8_number_37 : decode cX8_number 37 = .ok (.ifCond .eq 34, 3) := by decide +kernel
theorem dX8_number_40 : decode cX8_number 40 = .ok (.bipush 10, 2) := by decide +kernel
theorem dX8_number_42 : decode cX8_number 42 = .ok (.iload_n 1, 1) := by decide +kernel
theorem dX8_number_43 : decode cX8_number 43 = .ok (.imul, 1) := by decide +kernel
theorem dX8_number_44 : decode cX8_number 44 = .ok (.aload_n 0, 1) := by decide +kernel
theorem dX8_number_45 : decode cX8_number 45 = .ok (.getfield 38, 3) := by decide +kernel
theorem dX8_number_48 : decode cX8_number 48 = .ok (.aload_n 0, 1) := by decide +kernel
theorem dX8_number_49 : decode cX8_number 49 = .ok (.dup, 1) := by decide +kernel
theorem dX8_number_50 : decode cX8_number 50 = .ok (.getfield 285, 3) := by decide +kernel
theorem dX8_number_53 : decode cX8_number 53 = .ok (.dup_x1, 1) := by decide +kernel
theorem dX8_number_54 : decode cX8_number 54 = .ok (.iconst 1, 1) := by decide +kernel
theorem dX8_number_55 : decode cX8_number 55 = .ok (.iadd, 1) := by decide +kernel
theorem dX8_number_56 : decode cX8_number 56 = .ok (.putfield 285, 3) := by decide +kernel
theorem dX8_number_59 : decode cX8_number 59 = .ok (.iaload, 1) := by decide +kernel
theorem dX8_number_60 : decode cX8_number 60 = .ok (.iadd, 1) := by decide +kernel
theorem dX8_number_61 : decode cX8_number 61 = .ok (.bipush 48, 2) := by decide +kernel
theorem dX8_number_63 : decode cX8_number 63 = .ok (.isub, 1) := by decide +kernel
theorem dX8_number_64 : decode cX8_number 64 = .ok (.istore_n 1, 1) := by decide +kernel
theorem dX8_number_65 : decode cX8_number 65 = .ok (.iinc 2 1, 3) := by decide +kernel
theorem dX8_number_68 : decode cX8_number 68 = .ok (.goto (-45), 3) := by decide +kernel
theorem dX8_number_71 : decode cX8_number 71 = .ok (.iload_n 1, 1) := by decide +kernel
theorem dX8_number_72 : decode cX8_number 72 = .ok (.ireturn, 1) := by decide +kernel
theorem dX8_partsOf_0 : decode cX8_partsOf 0 = .ok (.iload_n 0, 1) := by decide +kernel
theorem dX8_partsOf_1 : decode cX8_partsOf 1 = .ok (.tableswitch 102 100 119 #[100, 102, 100, 100, 102, 102, 102, 102, 95, 102, 102, 102, 98, 102, 98, 102, 102, 102, 102, 100], 95) := by decide +kernel
theorem dX8_partsOf_96 : decode cX8_partsOf 96 = .ok (.bipush 6, 2) := by decide +kernel
theorem dX8_partsOf_98 : decode cX8_partsOf 98 = .ok (.ireturn, 1) := by decide +kernel
theorem dX8_partsOf_99 : decode cX8_partsOf 99 = .ok (.iconst 2, 1) := by decide +kernel
theorem dX8_partsOf_100 : decode cX8_partsOf 100 = .ok (.ireturn, 1) := by decide +kernel
theorem dX8_partsOf_101 : decode cX8_partsOf 101 = .ok (.iconst 1, 1) := by decide +kernel
theorem dX8_partsOf_102 : decode cX8_partsOf 102 = .ok (.ireturn, 1) := by decide +kernel
theorem dX8_partsOf_103 : decode cX8_partsOf 103 = .ok (.bipush (-2), 2) := by decide +kernel
theorem dX8_partsOf_105 : decode cX8_partsOf 105 = .ok (.ireturn, 1) := by decide +kernel
theorem dX8_line_0 : decode cX8_line 0 = .ok (.aload_n 0, 1) := by decide +kernel
theorem dX8_line_1 : decode cX8_line 1 = .ok (.getfield 282, 3) := by decide +kernel
theorem dX8_line_4 : decode cX8_line 4 = .ok (.ifCond .ge 26, 3) := by decide +kernel
theorem dX8_line_7 : decode cX8_line 7 = .ok (.aload_n 0, 1) := by decide +kernel
theorem dX8_line_8 : decode cX8_line 8 = .ok (.getfield 285, 3) := by decide +kernel
theorem dX8_line_11 : decode cX8_line 11 = .ok (.aload_n 0, 1) := by decide +kernel
theorem dX8_line_12 : decode cX8_line 12 = .ok (.getfield 279, 3) := by decide +kernel
theorem dX8_line_15 : decode cX8_line 15 = .ok (.if_icmp .ge 15, 3) := by decide +kernel
theorem dX8_line_18 : decode cX8_line 18 = .ok (.aload_n 0, 1) := by decide +kernel
theorem dX8_line_19 : decode cX8_line 19 = .ok (.getfield 38, 3) := by decide +kernel
theorem dX8_line_22 : decode cX8_line 22 = .ok (.aload_n 0, 1) := by decide +kernel
theorem dX8_line_23 : decode cX8_line 23 = .ok (.getfield 285, 3) := by decide +kernel
theorem dX8_line_26 : decode cX8_line 26 = .ok (.iaload, 1) := by decide +kernel
theorem dX8_line_27 : decode cX8_line 27 = .ok (.goto 4, 3) := by decide +kernel
theorem dX8_line_30 : decode cX8_line 30 = .ok (.iconst 0, 1) := by decide +kernel
theorem dX8_line_31 : decode cX8_line 31 = .ok (.istore_n 1, 1) := by decide +kernel
theorem dX8_line_32 : decode cX8_line 32 = .ok (.iload_n 1, 1) := by decide +kernel
theorem dX8_line_33 : decode cX8_line 33 = .ok (.invokestatic 295, 3) := by decide +kernel
theorem dX8_line_36 : decode cX8_line 36 = .ok (.istore_n 2, 1) := by decide +kernel
theorem dX8_line_37 : decode cX8_line 37 = .ok (.iload_n 2, 1) := by decide +kernel
theorem dX8_line_38 : decode cX8_line 38 = .ok (.ifCond .ge 27, 3) := by decide +kernel
theorem dX8_line_41 : decode cX8_line 41 = .ok (.aload_n 0, 1) := by decide +kernel
theorem dX8_line_42 : decode cX8_line 42 = .ok (.aload_n 0, 1) := by decide +kernel
theorem dX8_line_43 : decode cX8_line 43 = .ok (.getfield 282, 3) := by decide +kernel
theorem dX8_line_46 : decode cX8_line 46 = .ok (.ifCond .ge 10, 3) := by decide +kernel
theorem dX8_line_49 : decode cX8_line 49 = .ok (.aload_n 0, 1) := by decide +kernel
theorem dX8_line_50 : decode cX8_line 50 = .ok (.getfield 285, 3) := by decide +kernel
theorem dX8_line_53 : decode cX8_line 53 = .ok (.goto 7, 3) := by decide +kernel
theorem dX8_line_56 : decode cX8_line 56 = .ok (.aload_n 0, 1) := by decide +kernel
theorem dX8_line_57 : decode cX8_line 57 = .ok (.getfield 282, 3) := by decide +kernel
theorem dX8_line_60 : decode cX8_line 60 = .ok (.putfield 282, 3) := by decide +kernel
theorem dX8_line_63 : decode cX8_line 63 = .ok (.iconst 0, 1) := by decide +kernel
theorem dX8_line_64 : decode cX8_line 64 = .ok (.ireturn, 1) := by decide +kernel
theorem dX8_line_65 : decode cX8_line 65 = .ok (.aload_n 0, 1) := by decide +kernel
theorem dX8_line_66 : decode cX8_line 66 = .ok (.dup, 1) := by decide +kernel
theorem dX8_line_67 : decode cX8_line 67 = .ok (.getfield 285, 3) := by decide +kernel
theorem dX8_line_70 : decode cX8_line 70 = .ok (.iconst 1, 1) := by decide +kernel
theorem dX8_line_71 : decode cX8_line 71 = .ok (.iadd, 1) := by decide +kernel
theorem dX8_line_72 : decode cX8_line 72 = .ok (.putfield 285, 3) := by decide +kernel
theorem dX8_line_75 : decode cX8_line 75 = .ok (.iconst 0, 1) := by decide +kernel
theorem dX8_line_76 : decode cX8_line 76 = .ok (.istore_n 3, 1) := by decide +kernel
theorem dX8_line_77 : decode cX8_line 77 = .ok (.iload_n 3, 1) := by decide +kernel
theorem dX8_line_78 : decode cX8_line 78 = .ok (.iload_n 2, 1) := by decide +kernel
theorem dX8_line_79 : decode cX8_line 79 = .ok (.if_icmp .ge 19, 3) := by decide +kernel
theorem dX8_line_82 : decode cX8_line 82 = .ok (.aload_n 0, 1) := by decide +kernel
theorem dX8_line_83 : decode cX8_line 83 = .ok (.getfield 61, 3) := by decide +kernel
theorem dX8_line_86 : decode cX8_line 86 = .ok (.iload_n 3, 1) := by decide +kernel
theorem dX8_line_87 : decode cX8_line 87 = .ok (.aload_n 0, 1) := by decide +kernel
theorem dX8_line_88 : decode cX8_line 88 = .ok (.invokevirtual 298, 3) := by decide +kernel
theorem dX8_line_91 : decode cX8_line 91 = .ok (.iastore, 1) := by decide +kernel
theorem dX8_line_92 : decode cX8_line 92 = .ok (.iinc 3 1, 3) := by decide +kernel
theorem dX8_line_95 : decode cX8_line 95 = .ok (.goto (-18), 3) := by decide +kernel
theorem dX8_line_98 : decode cX8_line 98 = .ok (.iload_n 1, 1) := by decide +kernel
theorem dX8_line_99 : decode cX8_line 99 = .ok (.ireturn, 1) := by decide +kernel
theorem dX8_isForm_0 : decode cX8_isForm 0 = .ok (.aload_n 0, 1) := by decide +kernel
theorem dX8_isForm_1 : decode cX8_isForm 1 = .ok (.iconst 0, 1) := by decide +kernel
theorem dX8_isForm_2 : decode cX8_isForm 2 = .ok (.putfield 285, 3) := by decide +kernel
theorem dX8_isForm_5 : decode cX8_isForm 5 = .ok (.aload_n 0, 1) := by decide +kernel
theorem dX8_isForm_6 : decode cX8_isForm 6 = .ok (.iconst (-1), 1) := by decide +kernel
theorem dX8_isForm_7 : decode cX8_isForm 7 = .ok (.putfield 282, 3) := by decide +kernel
theorem dX8_isForm_10 : decode cX8_isForm 10 = .ok (.aload_n 0, 1) := by decide +kernel
theorem dX8_isForm_11 : decode cX8_isForm 11 = .ok (.invokevirtual 302, 3) := by decide +kernel
theorem dX8_isForm_14 : decode cX8_isForm 14 = .ok (.pop, 1) := by decide +kernel
theorem dX8_isForm_15 : decode cX8_isForm 15 = .ok (.aload_n 0, 1) := by decide +kernel
theorem dX8_isForm_16 : decode cX8_isForm 16 = .ok (.getfield 282, 3) := by decide +kernel
theorem dX8_isForm_19 : decode cX8_isForm 19 = .ok (.ifCond .ge 31, 3) := by decide +kernel
theorem dX8_isForm_22 : decode cX8_isForm 22 = .ok (.aload_n 0, 1) := by decide +kernel
theorem dX8_isForm_23 : decode cX8_isForm 23 = .ok (.getfield 285, 3) := by decide +kernel
theorem dX8_isForm_26 : decode cX8_isForm 26 = .ok (.aload_n 0, 1) := by decide +kernel
theorem dX8_isForm_27 : decode cX8_isForm 27 = .ok (.getfield 279, 3) := by decide +kernel
theorem dX8_isForm_30 : decode cX8_isForm 30 = .ok (.if_icmp .ge 20, 3) := by decide +kernel
theorem dX8_isForm_33 : decode cX8_isForm 33 = .ok (.aload_n 0, 1) := by decide +kernel
theorem dX8_isForm_34 : decode cX8_isForm 34 = .ok (.bipush 59, 2) := by decide +kernel
theorem dX8_isForm_36 : decode cX8_isForm 36 = .ok (.bipush 59, 2) := by decide +kernel
theorem dX8_isForm_38 : decode cX8_isForm 38 = .ok (.invokevirtual 292, 3) := by decide +kernel
theorem dX8_isForm_41 : decode cX8_isForm 41 = .ok (.pop, 1) := by decide +kernel
theorem dX8_isForm_42 : decode cX8_isForm 42 = .ok (.aload_n 0, 1) := by decide +kernel
theorem dX8_isForm_43 : decode cX8_isForm 43 = .ok (.invokevirtual 302, 3) := by decide +kernel
theorem dX8_isForm_46 : decode cX8_isForm 46 = .ok (.pop, 1) := by decide +kernel
theorem dX8_isForm_47 : decode cX8_isForm 47 = .ok (.goto (-32), 3) := by decide +kernel
theorem dX8_isForm_50 : decode cX8_isForm 50 = .ok (.aload_n 0, 1) := by decide +kernel
theorem dX8_isForm_51 : decode cX8_isForm 51 = .ok (.getfield 282, 3) := by decide +kernel
theorem dX8_isForm_54 : decode cX8_isForm 54 = .ok (.ifCond .ge 7, 3) := by decide +kernel
theorem dX8_isForm_57 : decode cX8_isForm 57 = .ok (.iconst 1, 1) := by decide +kernel
theorem dX8_isForm_58 : decode cX8_isForm 58 = .ok (.goto 4, 3) := by decide +kernel
theorem dX8_isForm_61 : decode cX8_isForm 61 = .ok (.iconst 0, 1) := by decide +kernel
theorem dX8_isForm_62 : decode cX8_isForm 62 = .ok (.ireturn, 1) := by decide +kernel
theorem dX8_does_0 : decode cX8_does 0 = .ok (.aload_n 0, 1) := by decide +kernel
theorem dX8_does_1 : decode cX8_does 1 = .ok (.getfield 61, 3) := by decide +kernel
theorem dX8_does_4 : decode cX8_does 4 = .ok (.iconst 0, 1) := by decide +kernel
theorem dX8_does_5 : decode cX8_does 5 = .ok (.iaload, 1) := by decide +kernel
theorem dX8_does_6 : decode cX8_does 6 = .ok (.istore_n 2, 1) := by decide +kernel
theorem dX8_does_7 : decode cX8_does 7 = .ok (.aload_n 0, 1) := by decide +kernel
theorem dX8_does_8 : decode cX8_does 8 = .ok (.getfield 61, 3) := by decide +kernel
theorem dX8_does_11 : decode cX8_does 11 = .ok (.iconst 1, 1) := by decide +kernel
theorem dX8_does_12 : decode cX8_does 12 = .ok (.iaload, 1) := by decide +kernel
theorem dX8_does_13 : decode cX8_does 13 = .ok (.istore_n 3, 1) := by decide +kernel
theorem dX8_does_14 : decode cX8_does 14 = .ok (.iload_n 1, 1) := by decide +kernel
theorem dX8_does_15 : decode cX8_does 15 = .ok (.tableswitch 238 100 119 #[217, 238, 238, 230, 238, 238, 238, 238, 93, 238, 238, 238, 202, 238, 210, 238, 238, 238, 238, 224], 93) := by decide +kernel
theorem dX8_does_108 : decode cX8_does 108 = .ok (.aload_n 0, 1) := by decide +kernel
theorem dX8_does_109 : decode cX8_does 109 = .ok (.getfield 61, 3) := by decide +kernel
theorem dX8_does_112 : decode cX8_does 112 = .ok (.iconst 3, 1) := by decide +kernel
theorem dX8_does_113 : decode cX8_does 113 = .ok (.iaload, 1) := by decide +kernel
theorem dX8_does_114 : decode cX8_does 114 = .ok (.i2l, 1) := by decide +kernel
theorem dX8_does_115 : decode cX8_does 115 = .ok (.lconst 0, 1) := by decide +kernel
theorem dX8_does_116 : decode cX8_does 116 = .ok (.ldc2_w 124, 3) := by decide +kernel
theorem dX8_does_119 : decode cX8_does 119 = .ok (.invokestatic 85, 3) := by decide +kernel
theorem dX8_does_122 : decode cX8_does 122 = .ok (.ifCond .eq 39, 3) := by decide +kernel
theorem dX8_does_125 : decode cX8_does 125 = .ok (.aload_n 0, 1) := by decide +kernel
theorem dX8_does_126 : decode cX8_does 126 = .ok (.getfield 61, 3) := by decide +kernel
theorem dX8_does_129 : decode cX8_does 129 = .ok (.iconst 4, 1) := by decide +kernel
theorem dX8_does_130 : decode cX8_does 130 = .ok (.iaload, 1) := by decide +kernel
theorem dX8_does_131 : decode cX8_does 131 = .ok (.i2l, 1) := by decide +kernel
theorem dX8_does_132 : decode cX8_does 132 = .ok (.lconst 1, 1) := by decide +kernel
theorem dX8_does_133 : decode cX8_does 133 = .ok (.ldc2_w 166, 3) := by decide +kernel
theorem dX8_does_136 : decode cX8_does 136 = .ok (.invokestatic 85, 3) := by decide +kernel
theorem dX8_does_139 : decode cX8_does 139 = .ok (.ifCond .eq 22, 3) := by decide +kernel
theorem dX8_does_142 : decode cX8_does 142 = .ok (.aload_n 0, 1) := by decide +kernel
theorem dX8_does_143 : decode cX8_does 143 = .ok (.getfield 61, 3) := by decide +kernel
theorem dX8_does_146 : decode cX8_does 146 = .ok (.iconst 5, 1) := by decide +kernel
theorem dX8_does_147 : decode cX8_does 147 = .ok (.iaload, 1) := by decide +kernel
theorem dX8_does_148 : decode cX8_does 148 = .ok (.i2l, 1) := by decide +kernel
theorem dX8_does_149 : decode cX8_does 149 = .ok (.lconst 0, 1) := by decide +kernel
theorem dX8_does_150 : decode cX8_does 150 = .ok (.lconst 1, 1) := by decide +kernel
theorem dX8_does_151 : decode cX8_does 151 = .ok (.invokestatic 85, 3) := by decide +kernel
theorem dX8_does_154 : decode cX8_does 154 = .ok (.ifCond .eq 7, 3) := by decide +kernel
theorem dX8_does_157 : decode cX8_does 157 = .ok (.iconst 1, 1) := by decide +kernel
theorem dX8_does_158 : decode cX8_does 158 = .ok (.goto 4, 3) := by decide +kernel
theorem dX8_does_161 : decode cX8_does 161 = .ok (.iconst 0, 1) := by decide +kernel
theorem dX8_does_162 : decode cX8_does 162 = .ok (.istore 4, 2) := by decide +kernel
theorem dX8_does_164 : decode cX8_does 164 = .ok (.iload 4, 2) := by decide +kernel
theorem dX8_does_166 : decode cX8_does 166 = .ok (.ifCond .eq 47, 3) := by decide +kernel
theorem dX8_does_169 : decode cX8_does 169 = .ok (.aload_n 0, 1) := by decide +kernel
theorem dX8_does_170 : decode cX8_does 170 = .ok (.iload_n 2, 1) := by decide +kernel
theorem dX8_does_171 : decode cX8_does 171 = .ok (.i2l, 1) := by decide +kernel
theorem dX8_does_172 : decode cX8_does 172 = .ok (.iload_n 3, 1) := by decide +kernel
theorem dX8_does_173 : decode cX8_does 173 = .ok (.aload_n 0, 1) := by decide +kernel
theorem dX8_does_174 : decode cX8_does 174 = .ok (.getfield 61, 3) := by decide +kernel
theorem dX8_does_177 : decode cX8_does 177 = .ok (.iconst 2, 1) := by decide +kernel
theorem dX8_does_178 : decode cX8_does 178 = .ok (.iaload, 1) := by decide +kernel
theorem dX8_does_179 : decode cX8_does 179 = .ok (.sipush 1000, 3) := by decide +kernel
theorem dX8_does_182 : decode cX8_does 182 = .ok (.aload_n 0, 1) := by decide +kernel
theorem dX8_does_183 : decode cX8_does 183 = .ok (.getfield 61, 3) := by decide +kernel
theorem dX8_does_186 : decode cX8_does 186 = .ok (.iconst 3, 1) := by decide +kernel
theorem dX8_does_187 : decode cX8_does 187 = .ok (.iaload, 1) := by decide +kernel
theorem dX8_does_188 : decode cX8_does 188 = .ok (.imul, 1) := by decide +kernel
theorem dX8_does_189 : decode cX8_does 189 = .ok (.bipush 100, 2) := by decide +kernel
theorem dX8_does_191 : decode cX8_does 191 = .ok (.aload_n 0, 1) := by decide +kernel
theorem dX8_does_192 : decode cX8_does 192 = .ok (.getfield 61, 3) := by decide +kernel
theorem dX8_does_195 : decode cX8_does 195 = .ok (.iconst 5, 1) := by decide +kernel
theorem dX8_does_196 : decode cX8_does 196 = .ok (.iaload, 1) := by decide +kernel
theorem dX8_does_197 : decode cX8_does 197 = .ok (.imul, 1) := by decide +kernel
theorem dX8_does_198 : decode cX8_does 198 = .ok (.iadd, 1) := by decide +kernel
theorem dX8_does_199 : decode cX8_does 199 = .ok (.aload_n 0, 1) := by decide +kernel
theorem dX8_does_200 : decode cX8_does 200 = .ok (.getfield 61, 3) := by decide +kernel
theorem dX8_does_203 : decode cX8_does 203 = .ok (.iconst 4, 1) := by decide +kernel
theorem dX8_does_204 : decode cX8_does 204 = .ok (.iaload, 1) := by decide +kernel
theorem dX8_does_205 : decode cX8_does 205 = .ok (.iadd, 1) := by decide +kernel
theorem dX8_does_206 : decode cX8_does 206 = .ok (.invokevirtual 305, 3) := by decide +kernel
theorem dX8_does_209 : decode cX8_does 209 = .ok (.i2l, 1) := by decide +kernel
theorem dX8_does_210 : decode cX8_does 210 = .ok (.goto 6, 3) := by decide +kernel
theorem dX8_does_213 : decode cX8_does 213 = .ok (.ldc2_w 134, 3) := by decide +kernel
theorem dX8_does_216 : decode cX8_does 216 = .ok (.lreturn, 1) := by decide +kernel
theorem dX8_does_217 : decode cX8_does 217 = .ok (.aload_n 0, 1) := by decide +kernel
theorem dX8_does_218 : decode cX8_does 218 = .ok (.iload_n 2, 1) := by decide +kernel
theorem dX8_does_219 : decode cX8_does 219 = .ok (.iload_n 3, 1) := by decide +kernel
theorem dX8_does_220 : decode cX8_does 220 = .ok (.i2l, 1) := by decide +kernel
theorem dX8_does_221 : decode cX8_does 221 = .ok (.invokevirtual 309, 3) := by decide +kernel
theorem dX8_does_224 : decode cX8_does 224 = .ok (.lreturn, 1) := by decide +kernel
theorem dX8_does_225 : decode cX8_does 225 = .ok (.aload_n 0, 1) := by decide +kernel
theorem dX8_does_226 : decode cX8_does 226 = .ok (.iload_n 2, 1) := by decide +kernel
theorem dX8_does_227 : decode cX8_does 227 = .ok (.iload_n 3, 1) := by decide +kernel
theorem dX8_does_228 : decode cX8_does 228 = .ok (.invokevirtual 313, 3) := by decide +kernel
theorem dX8_does_231 : decode cX8_does 231 = .ok (.lreturn, 1) := by decide +kernel
theorem dX8_does_232 : decode cX8_does 232 = .ok (.aload_n 0, 1) := by decide +kernel
theorem dX8_does_233 : decode cX8_does 233 = .ok (.iload_n 2, 1) := by decide +kernel
theorem dX8_does_234 : decode cX8_does 234 = .ok (.invokevirtual 316, 3) := by decide +kernel
theorem dX8_does_237 : decode cX8_does 237 = .ok (.i2l, 1) := by decide +kernel
theorem dX8_does_238 : decode cX8_does 238 = .ok (.lreturn, 1) := by decide +kernel
theorem dX8_does_239 : decode cX8_does 239 = .ok (.aload_n 0, 1) := by decide +kernel
theorem dX8_does_240 : decode cX8_does 240 = .ok (.iload_n 2, 1) := by decide +kernel
theorem dX8_does_241 : decode cX8_does 241 = .ok (.invokevirtual 319, 3) := by decide +kernel
theorem dX8_does_244 : decode cX8_does 244 = .ok (.lreturn, 1) := by decide +kernel
theorem dX8_does_245 : decode cX8_does 245 = .ok (.aload_n 0, 1) := by decide +kernel
theorem dX8_does_246 : decode cX8_does 246 = .ok (.iconst 0, 1) := by decide +kernel
theorem dX8_does_247 : decode cX8_does 247 = .ok (.iload_n 2, 1) := by decide +kernel
theorem dX8_does_248 : decode cX8_does 248 = .ok (.invokevirtual 322, 3) := by decide +kernel
theorem dX8_does_251 : decode cX8_does 251 = .ok (.i2l, 1) := by decide +kernel
theorem dX8_does_252 : decode cX8_does 252 = .ok (.lreturn, 1) := by decide +kernel
theorem dX8_does_253 : decode cX8_does 253 = .ok (.aload_n 0, 1) := by decide +kernel
theorem dX8_does_254 : decode cX8_does 254 = .ok (.iconst 1, 1) := by decide +kernel
theorem dX8_does_255 : decode cX8_does 255 = .ok (.iload_n 2, 1) := by decide +kernel
theorem dX8_does_256 : decode cX8_does 256 = .ok (.invokevirtual 322, 3) := by decide +kernel
theorem dX8_does_259 : decode cX8_does 259 = .ok (.i2l, 1) := by decide +kernel
theorem dX8_does_260 : decode cX8_does 260 = .ok (.lreturn, 1) := by decide +kernel
theorem dX8_script_0 : decode cX8_script 0 = .ok (.aload_n 0, 1) := by decide +kernel
theorem dX8_script_1 : decode cX8_script 1 = .ok (.invokevirtual 325, 3) := by decide +kernel
theorem dX8_script_4 : decode cX8_script 4 = .ok (.ifCond .ne 17, 3) := by decide +kernel
theorem dX8_script_7 : decode cX8_script 7 = .ok (.aload_n 0, 1) := by decide +kernel
theorem dX8_script_8 : decode cX8_script 8 = .ok (.iconst 0, 1) := by decide +kernel
theorem dX8_script_9 : decode cX8_script 9 = .ok (.putfield 279, 3) := by decide +kernel
theorem dX8_script_12 : decode cX8_script 12 = .ok (.sipush (-1000), 3) := by decide +kernel
theorem dX8_script_15 : decode cX8_script 15 = .ok (.aload_n 0, 1) := by decide +kernel
theorem dX8_script_16 : decode cX8_script 16 = .ok (.getfield 282, 3) := by decide +kernel
theorem dX8_script_19 : decode cX8_script 19 = .ok (.isub, 1) := by decide +kernel
theorem dX8_script_20 : decode cX8_script 20 = .ok (.ireturn, 1) := by decide +kernel
theorem dX8_script_21 : decode cX8_script 21 = .ok (.aload_n 0, 1) := by decide +kernel
theorem dX8_script_22 : decode cX8_script 22 = .ok (.getfield 9, 3) := by decide +kernel
theorem dX8_script_25 : decode cX8_script 25 = .ok (.aload_n 0, 1) := by decide +kernel
theorem dX8_script_26 : decode cX8_script 26 = .ok (.getfield 16, 3) := by decide +kernel
theorem dX8_script_29 : decode cX8_script 29 = .ok (.invokestatic 267, 3) := by decide +kernel
theorem dX8_script_32 : decode cX8_script 32 = .ok (.aload_n 0, 1) := by decide +kernel
theorem dX8_script_33 : decode cX8_script 33 = .ok (.iconst 0, 1) := by decide +kernel
theorem dX8_script_34 : decode cX8_script 34 = .ok (.putfield 285, 3) := by decide +kernel
theorem dX8_script_37 : decode cX8_script 37 = .ok (.iconst 0, 1) := by decide +kernel
theorem dX8_script_38 : decode cX8_script 38 = .ok (.istore_n 1, 1) := by decide +kernel
theorem dX8_script_39 : decode cX8_script 39 = .ok (.iconst 1, 1) := by decide +kernel
theorem dX8_script_40 : decode cX8_script 40 = .ok (.istore_n 2, 1) := by decide +kernel
theorem dX8_script_41 : decode cX8_script 41 = .ok (.iload_n 2, 1) := by decide +kernel
theorem dX8_script_42 : decode cX8_script 42 = .ok (.ifCond .eq 57, 3) := by decide +kernel
theorem dX8_script_45 : decode cX8_script 45 = .ok (.aload_n 0, 1) := by decide +kernel
theorem dX8_script_46 : decode cX8_script 46 = .ok (.getfield 285, 3) := by decide +kernel
theorem dX8_script_49 : decode cX8_script 49 = .ok (.aload_n 0, 1) := by decide +kernel
theorem dX8_script_50 : decode cX8_script 50 = .ok (.getfield 279, 3) := by decide +kernel
theorem dX8_script_53 : decode cX8_script 53 = .ok (.if_icmp .ge 46, 3) := by decide +kernel
theorem dX8_script_56 : decode cX8_script 56 = .ok (.aload_n 0, 1) := by decide +kernel
theorem dX8_script_57 : decode cX8_script 57 = .ok (.dup, 1) := by decide +kernel
theorem dX8_script_58 : decode cX8_script 58 = .ok (.getfield 285, 3) := by decide +kernel
theorem dX8_script_61 : decode cX8_script 61 = .ok (.iload_n 1, 1) := by decide +kernel
theorem dX8_script_62 : decode cX8_script 62 = .ok (.ifCond .le 7, 3) := by decide +kernel
theorem dX8_script_65 : decode cX8_script 65 = .ok (.iconst 1, 1) := by decide +kernel
theorem dX8_script_66 : decode cX8_script 66 = .ok (.goto 4, 3) := by decide +kernel
theorem dX8_script_69 : decode cX8_script 69 = .ok (.iconst 0, 1) := by decide +kernel
theorem dX8_script_70 : decode cX8_script 70 = .ok (.iadd, 1) := by decide +kernel
theorem dX8_script_71 : decode cX8_script 71 = .ok (.putfield 285, 3) := by decide +kernel
theorem dX8_script_74 : decode cX8_script 74 = .ok (.aload_n 0, 1) := by decide +kernel
theorem dX8_script_75 : decode cX8_script 75 = .ok (.aload_n 0, 1) := by decide +kernel
theorem dX8_script_76 : decode cX8_script 76 = .ok (.invokevirtual 302, 3) := by decide +kernel
theorem dX8_script_79 : decode cX8_script 79 = .ok (.invokevirtual 329, 3) := by decide +kernel
theorem dX8_script_82 : decode cX8_script 82 = .ok (.lconst 0, 1) := by decide +kernel
theorem dX8_script_83 : decode cX8_script 83 = .ok (.lcmp, 1) := by decide +kernel
theorem dX8_script_84 : decode cX8_script 84 = .ok (.ifCond .lt 7, 3) := by decide +kernel
theorem dX8_script_87 : decode cX8_script 87 = .ok (.iconst 1, 1) := by decide +kernel
theorem dX8_script_88 : decode cX8_script 88 = .ok (.goto 4, 3) := by decide +kernel
theorem dX8_script_91 : decode cX8_script 91 = .ok (.iconst 0, 1) := by decide +kernel
theorem dX8_script_92 : decode cX8_script 92 = .ok (.istore_n 2, 1) := by decide +kernel
theorem dX8_script_93 : decode cX8_script 93 = .ok (.iinc 1 1, 3) := by decide +kernel
theorem dX8_script_96 : decode cX8_script 96 = .ok (.goto (-55), 3) := by decide +kernel
theorem dX8_script_99 : decode cX8_script 99 = .ok (.aload_n 0, 1) := by decide +kernel
theorem dX8_script_100 : decode cX8_script 100 = .ok (.iconst 0, 1) := by decide +kernel
theorem dX8_script_101 : decode cX8_script 101 = .ok (.putfield 279, 3) := by decide +kernel
theorem dX8_script_104 : decode cX8_script 104 = .ok (.iload_n 2, 1) := by decide +kernel
theorem dX8_script_105 : decode cX8_script 105 = .ok (.ifCond .ne 22, 3) := by decide +kernel
theorem dX8_script_108 : decode cX8_script 108 = .ok (.aload_n 0, 1) := by decide +kernel
theorem dX8_script_109 : decode cX8_script 109 = .ok (.getfield 16, 3) := by decide +kernel
theorem dX8_script_112 : decode cX8_script 112 = .ok (.aload_n 0, 1) := by decide +kernel
theorem dX8_script_113 : decode cX8_script 113 = .ok (.getfield 9, 3) := by decide +kernel
theorem dX8_script_116 : decode cX8_script 116 = .ok (.invokestatic 267, 3) := by decide +kernel
theorem dX8_script_119 : decode cX8_script 119 = .ok (.sipush (-2000), 3) := by decide +kernel
theorem dX8_script_122 : decode cX8_script 122 = .ok (.iload_n 1, 1) := by decide +kernel
theorem dX8_script_123 : decode cX8_script 123 = .ok (.iconst 1, 1) := by decide +kernel
theorem dX8_script_124 : decode cX8_script 124 = .ok (.isub, 1) := by decide +kernel
theorem dX8_script_125 : decode cX8_script 125 = .ok (.isub, 1) := by decide +kernel
theorem dX8_script_126 : decode cX8_script 126 = .ok (.ireturn, 1) := by decide +kernel
theorem dX8_script_127 : decode cX8_script 127 = .ok (.iload_n 1, 1) := by decide +kernel
theorem dX8_script_128 : decode cX8_script 128 = .ok (.ireturn, 1) := by decide +kernel
theorem dX8_image_0 : decode cX8_image 0 = .ok (.aload_n 0, 1) := by decide +kernel
theorem dX8_image_1 : decode cX8_image 1 = .ok (.getfield 9, 3) := by decide +kernel
theorem dX8_image_4 : decode cX8_image 4 = .ok (.aload_n 0, 1) := by decide +kernel
theorem dX8_image_5 : decode cX8_image 5 = .ok (.getfield 19, 3) := by decide +kernel
theorem dX8_image_8 : decode cX8_image 8 = .ok (.invokestatic 267, 3) := by decide +kernel
theorem dX8_image_11 : decode cX8_image 11 = .ok (.aload_n 0, 1) := by decide +kernel
theorem dX8_image_12 : decode cX8_image 12 = .ok (.iconst 1, 1) := by decide +kernel
theorem dX8_image_13 : decode cX8_image 13 = .ok (.putfield 332, 3) := by decide +kernel
theorem dX8_image_16 : decode cX8_image 16 = .ok (.aload_n 0, 1) := by decide +kernel
theorem dX8_image_17 : decode cX8_image 17 = .ok (.getfield 9, 3) := by decide +kernel
theorem dX8_image_20 : decode cX8_image 20 = .ok (.sipush 2521, 3) := by decide +kernel
theorem dX8_image_23 : decode cX8_image 23 = .ok (.laload, 1) := by decide +kernel
theorem dX8_image_24 : decode cX8_image 24 = .ok (.l2i, 1) := by decide +kernel
theorem dX8_image_25 : decode cX8_image 25 = .ok (.ireturn, 1) := by decide +kernel
theorem dX8_back_0 : decode cX8_back 0 = .ok (.aload_n 0, 1) := by decide +kernel
theorem dX8_back_1 : decode cX8_back 1 = .ok (.getfield 332, 3) := by decide +kernel
theorem dX8_back_4 : decode cX8_back 4 = .ok (.ifCond .ne 6, 3) := by decide +kernel
theorem dX8_back_7 : decode cX8_back 7 = .ok (.bipush (-5), 2) := by decide +kernel
theorem dX8_back_9 : decode cX8_back 9 = .ok (.ireturn, 1) := by decide +kernel
theorem dX8_back_10 : decode cX8_back 10 = .ok (.aload_n 0, 1) := by decide +kernel
theorem dX8_back_11 : decode cX8_back 11 = .ok (.getfield 19, 3) := by decide +kernel
theorem dX8_back_14 : decode cX8_back 14 = .ok (.aload_n 0, 1) := by decide +kernel
theorem dX8_back_15 : decode cX8_back 15 = .ok (.getfield 9, 3) := by decide +kernel
theorem dX8_back_18 : decode cX8_back 18 = .ok (.invokestatic 267, 3) := by decide +kernel
theorem dX8_back_21 : decode cX8_back 21 = .ok (.iconst 0, 1) := by decide +kernel
theorem dX8_back_22 : decode cX8_back 22 = .ok (.istore_n 1, 1) := by decide +kernel
theorem dX8_back_23 : decode cX8_back 23 = .ok (.iload_n 1, 1) := by decide +kernel
theorem dX8_back_24 : decode cX8_back 24 = .ok (.bipush 6, 2) := by decide +kernel
theorem dX8_back_26 : decode cX8_back 26 = .ok (.if_icmp .ge 48, 3) := by decide +kernel
theorem dX8_back_29 : decode cX8_back 29 = .ok (.aload_n 0, 1) := by decide +kernel
theorem dX8_back_30 : decode cX8_back 30 = .ok (.getfield 41, 3) := by decide +kernel
theorem dX8_back_33 : decode cX8_back 33 = .ok (.iload_n 1, 1) := by decide +kernel
theorem dX8_back_34 : decode cX8_back 34 = .ok (.aload_n 0, 1) := by decide +kernel
theorem dX8_back_35 : decode cX8_back 35 = .ok (.getfield 41, 3) := by decide +kernel
theorem dX8_back_38 : decode cX8_back 38 = .ok (.iload_n 1, 1) := by decide +kernel
theorem dX8_back_39 : decode cX8_back 39 = .ok (.iaload, 1) := by decide +kernel
theorem dX8_back_40 : decode cX8_back 40 = .ok (.iconst 1, 1) := by decide +kernel
theorem dX8_back_41 : decode cX8_back 41 = .ok (.if_icmp .ne 20, 3) := by decide +kernel
theorem dX8_back_44 : decode cX8_back 44 = .ok (.aload_n 0, 1) := by decide +kernel
theorem dX8_back_45 : decode cX8_back 45 = .ok (.aload_n 0, 1) := by decide +kernel
theorem dX8_back_46 : decode cX8_back 46 = .ok (.getfield 44, 3) := by decide +kernel
theorem dX8_back_49 : decode cX8_back 49 = .ok (.iload_n 1, 1) := by decide +kernel
theorem dX8_back_50 : decode cX8_back 50 = .ok (.iaload, 1) := by decide +kernel
theorem dX8_back_51 : decode cX8_back 51 = .ok (.invokevirtual 197, 3) := by decide +kernel
theorem dX8_back_54 : decode cX8_back 54 = .ok (.ifCond .ne 7, 3) := by decide +kernel
theorem dX8_back_57 : decode cX8_back 57 = .ok (.iconst 0, 1) := by decide +kernel
theorem dX8_back_58 : decode cX8_back 58 = .ok (.goto 9, 3) := by decide +kernel
theorem dX8_back_61 : decode cX8_back 61 = .ok (.aload_n 0, 1) := by decide +kernel
theorem dX8_back_62 : decode cX8_back 62 = .ok (.getfield 41, 3) := by decide +kernel
theorem dX8_back_65 : decode cX8_back 65 = .ok (.iload_n 1, 1) := by decide +kernel
theorem dX8_back_66 : decode cX8_back 66 = .ok (.iaload, 1) := by decide +kernel
theorem dX8_back_67 : decode cX8_back 67 = .ok (.iastore, 1) := by decide +kernel
theorem dX8_back_68 : decode cX8_back 68 = .ok (.iinc 1 1, 3) := by decide +kernel
theorem dX8_back_71 : decode cX8_back 71 = .ok (.goto (-48), 3) := by decide +kernel
theorem dX8_back_74 : decode cX8_back 74 = .ok (.aload_n 0, 1) := by decide +kernel
theorem dX8_back_75 : decode cX8_back 75 = .ok (.getfield 9, 3) := by decide +kernel
theorem dX8_back_78 : decode cX8_back 78 = .ok (.sipush 2521, 3) := by decide +kernel
theorem dX8_back_81 : decode cX8_back 81 = .ok (.laload, 1) := by decide +kernel
theorem dX8_back_82 : decode cX8_back 82 = .ok (.l2i, 1) := by decide +kernel
theorem dX8_back_83 : decode cX8_back 83 = .ok (.ireturn, 1) := by decide +kernel
theorem dX8_hold_0 : decode cX8_hold 0 = .ok (.aload_n 0, 1) := by decide +kernel
theorem dX8_hold_1 : decode cX8_hold 1 = .ok (.iload_n 1, 1) := by decide +kernel
theorem dX8_hold_2 : decode cX8_hold 2 = .ok (.invokevirtual 274, 3) := by decide +kernel
theorem dX8_hold_5 : decode cX8_hold 5 = .ok (.ifCond .eq 16, 3) := by decide +kernel
theorem dX8_hold_8 : decode cX8_hold 8 = .ok (.aload_n 0, 1) := by decide +kernel
theorem dX8_hold_9 : decode cX8_hold 9 = .ok (.iload_n 2, 1) := by decide +kernel
theorem dX8_hold_10 : decode cX8_hold 10 = .ok (.invokevirtual 197, 3) := by decide +kernel
theorem dX8_hold_13 : decode cX8_hold 13 = .ok (.ifCond .eq 8, 3) := by decide +kernel
theorem dX8_hold_16 : decode cX8_hold 16 = .ok (.iload_n 3, 1) := by decide +kernel
theorem dX8_hold_17 : decode cX8_hold 17 = .ok (.iconst (-1), 1) := by decide +kernel
theorem dX8_hold_18 : decode cX8_hold 18 = .ok (.if_icmp .ge 5, 3) := by decide +kernel
theorem dX8_hold_21 : decode cX8_hold 21 = .ok (.iconst (-1), 1) := by decide +kernel
theorem dX8_hold_22 : decode cX8_hold 22 = .ok (.ireturn, 1) := by decide +kernel
theorem dX8_hold_23 : decode cX8_hold 23 = .ok (.iload_n 3, 1) := by decide +kernel
theorem dX8_hold_24 : decode cX8_hold 24 = .ok (.i2l, 1) := by decide +kernel
theorem dX8_hold_25 : decode cX8_hold 25 = .ok (.aload_n 0, 1) := by decide +kernel
theorem dX8_hold_26 : decode cX8_hold 26 = .ok (.iload_n 2, 1) := by decide +kernel
theorem dX8_hold_27 : decode cX8_hold 27 = .ok (.bipush 14, 2) := by decide +kernel
theorem dX8_hold_29 : decode cX8_hold 29 = .ok (.invokevirtual 136, 3) := by decide +kernel
theorem dX8_hold_32 : decode cX8_hold 32 = .ok (.lcmp, 1) := by decide +kernel
theorem dX8_hold_33 : decode cX8_hold 33 = .ok (.ifCond .lt 6, 3) := by decide +kernel
theorem dX8_hold_36 : decode cX8_hold 36 = .ok (.bipush (-2), 2) := by decide +kernel
theorem dX8_hold_38 : decode cX8_hold 38 = .ok (.ireturn, 1) := by decide +kernel
theorem dX8_hold_39 : decode cX8_hold 39 = .ok (.aload_n 0, 1) := by decide +kernel
theorem dX8_hold_40 : decode cX8_hold 40 = .ok (.getfield 41, 3) := by decide +kernel
theorem dX8_hold_43 : decode cX8_hold 43 = .ok (.iload_n 1, 1) := by decide +kernel
theorem dX8_hold_44 : decode cX8_hold 44 = .ok (.iload_n 3, 1) := by decide +kernel
theorem dX8_hold_45 : decode cX8_hold 45 = .ok (.ifCond .ge 7, 3) := by decide +kernel
theorem dX8_hold_48 : decode cX8_hold 48 = .ok (.iconst 1, 1) := by decide +kernel
theorem dX8_hold_49 : decode cX8_hold 49 = .ok (.goto 4, 3) := by decide +kernel
theorem dX8_hold_52 : decode cX8_hold 52 = .ok (.iconst 2, 1) := by decide +kernel
theorem dX8_hold_53 : decode cX8_hold 53 = .ok (.iastore, 1) := by decide +kernel
theorem dX8_hold_54 : decode cX8_hold 54 = .ok (.aload_n 0, 1) := by decide +kernel
theorem dX8_hold_55 : decode cX8_hold 55 = .ok (.getfield 44, 3) := by decide +kernel
theorem dX8_hold_58 : decode cX8_hold 58 = .ok (.iload_n 1, 1) := by decide +kernel
theorem dX8_hold_59 : decode cX8_hold 59 = .ok (.iload_n 2, 1) := by decide +kernel
theorem dX8_hold_60 : decode cX8_hold 60 = .ok (.iastore, 1) := by decide +kernel
theorem dX8_hold_61 : decode cX8_hold 61 = .ok (.iload_n 3, 1) := by decide +kernel
theorem dX8_hold_62 : decode cX8_hold 62 = .ok (.ifCond .lt 32, 3) := by decide +kernel
theorem dX8_hold_65 : decode cX8_hold 65 = .ok (.aload_n 0, 1) := by decide +kernel
theorem dX8_hold_66 : decode cX8_hold 66 = .ok (.getfield 47, 3) := by decide +kernel
theorem dX8_hold_69 : decode cX8_hold 69 = .ok (.iload_n 1, 1) := by decide +kernel
theorem dX8_hold_70 : decode cX8_hold 70 = .ok (.aload_n 0, 1) := by decide +kernel
theorem dX8_hold_71 : decode cX8_hold 71 = .ok (.iload_n 2, 1) := by decide +kernel
theorem dX8_hold_72 : decode cX8_hold 72 = .ok (.bipush 15, 2) := by decide +kernel
theorem dX8_hold_74 : decode cX8_hold 74 = .ok (.iconst 5, 1) := by decide +kernel
theorem dX8_hold_75 : decode cX8_hold 75 = .ok (.iload_n 3, 1) := by decide +kernel
theorem dX8_hold_76 : decode cX8_hold 76 = .ok (.imul, 1) := by decide +kernel
theorem dX8_hold_77 : decode cX8_hold 77 = .ok (.iadd, 1) := by decide +kernel
theorem dX8_hold_78 : decode cX8_hold 78 = .ok (.invokevirtual 136, 3) := by decide +kernel
theorem dX8_hold_81 : decode cX8_hold 81 = .ok (.lastore, 1) := by decide +kernel
theorem dX8_hold_82 : decode cX8_hold 82 = .ok (.aload_n 0, 1) := by decide +kernel
theorem dX8_hold_83 : decode cX8_hold 83 = .ok (.getfield 50, 3) := by decide +kernel
theorem dX8_hold_86 : decode cX8_hold 86 = .ok (.iload_n 1, 1) := by decide +kernel
theorem dX8_hold_87 : decode cX8_hold 87 = .ok (.aload_n 0, 1) := by decide +kernel
theorem dX8_hold_88 : decode cX8_hold 88 = .ok (.iload_n 2, 1) := by decide +kernel
theorem dX8_hold_89 : decode cX8_hold 89 = .ok (.iload_n 3, 1) := by decide +kernel
theorem dX8_hold_90 : decode cX8_hold 90 = .ok (.invokevirtual 191, 3) := by decide +kernel
theorem dX8_hold_93 : decode cX8_hold 93 = .ok (.lastore, 1) := by decide +kernel
theorem dX8_hold_94 : decode cX8_hold 94 = .ok (.iconst 1, 1) := by decide +kernel
theorem dX8_hold_95 : decode cX8_hold 95 = .ok (.ireturn, 1) := by decide +kernel
theorem dX8_row_0 : decode cX8_row 0 = .ok (.aload_n 0, 1) := by decide +kernel
theorem dX8_row_1 : decode cX8_row 1 = .ok (.iload_n 1, 1) := by decide +kernel
theorem dX8_row_2 : decode cX8_row 2 = .ok (.invokevirtual 274, 3) := by decide +kernel
theorem dX8_row_5 : decode cX8_row 5 = .ok (.ifCond .eq 9, 3) := by decide +kernel
theorem dX8_row_8 : decode cX8_row 8 = .ok (.iload_n 2, 1) := by decide +kernel
theorem dX8_row_9 : decode cX8_row 9 = .ok (.bipush 60, 2) := by decide +kernel
theorem dX8_row_11 : decode cX8_row 11 = .ok (.if_icmp .le 5, 3) := by decide +kernel
theorem dX8_row_14 : decode cX8_row 14 = .ok (.iconst (-1), 1) := by decide +kernel
theorem dX8_row_15 : decode cX8_row 15 = .ok (.ireturn, 1) := by decide +kernel
theorem dX8_row_16 : decode cX8_row 16 = .ok (.iload_n 2, 1) := by decide +kernel
theorem dX8_row_17 : decode cX8_row 17 = .ok (.iconst (-1), 1) := by decide +kernel
theorem dX8_row_18 : decode cX8_row 18 = .ok (.if_icmp .ge 6, 3) := by decide +kernel
theorem dX8_row_21 : decode cX8_row 21 = .ok (.bipush (-14), 2) := by decide +kernel
theorem dX8_row_23 : decode cX8_row 23 = .ok (.ireturn, 1) := by decide +kernel
theorem dX8_row_24 : decode cX8_row 24 = .ok (.aload_n 0, 1) := by decide +kernel
theorem dX8_row_25 : decode cX8_row 25 = .ok (.getfield 41, 3) := by decide +kernel
theorem dX8_row_28 : decode cX8_row 28 = .ok (.iload_n 1, 1) := by decide +kernel
theorem dX8_row_29 : decode cX8_row 29 = .ok (.iload_n 2, 1) := by decide +kernel
theorem dX8_row_30 : decode cX8_row 30 = .ok (.ifCond .ge 7, 3) := by decide +kernel
theorem dX8_row_33 : decode cX8_row 33 = .ok (.iconst 0, 1) := by decide +kernel
theorem dX8_row_34 : decode cX8_row 34 = .ok (.goto 4, 3) := by decide +kernel
theorem dX8_row_37 : decode cX8_row 37 = .ok (.iconst 3, 1) := by decide +kernel
theorem dX8_row_38 : decode cX8_row 38 = .ok (.iastore, 1) := by decide +kernel
theorem dX8_row_39 : decode cX8_row 39 = .ok (.aload_n 0, 1) := by decide +kernel
theorem dX8_row_40 : decode cX8_row 40 = .ok (.getfield 53, 3) := by decide +kernel
theorem dX8_row_43 : decode cX8_row 43 = .ok (.iload_n 1, 1) := by decide +kernel
theorem dX8_row_44 : decode cX8_row 44 = .ok (.iload_n 2, 1) := by decide +kernel
theorem dX8_row_45 : decode cX8_row 45 = .ok (.ifCond .ge 7, 3) := by decide +kernel
theorem dX8_row_48 : decode cX8_row 48 = .ok (.iconst 0, 1) := by decide +kernel
theorem dX8_row_49 : decode cX8_row 49 = .ok (.goto 4, 3) := by decide +kernel
theorem dX8_row_52 : decode cX8_row 52 = .ok (.iload_n 2, 1) := by decide +kernel
theorem dX8_row_53 : decode cX8_row 53 = .ok (.iastore, 1) := by decide +kernel
theorem dX8_row_54 : decode cX8_row 54 = .ok (.iconst 0, 1) := by decide +kernel
theorem dX8_row_55 : decode cX8_row 55 = .ok (.istore_n 3, 1) := by decide +kernel
theorem dX8_row_56 : decode cX8_row 56 = .ok (.iload_n 3, 1) := by decide +kernel
theorem dX8_row_57 : decode cX8_row 57 = .ok (.bipush 60, 2) := by decide +kernel
theorem dX8_row_59 : decode cX8_row 59 = .ok (.if_icmp .ge 18, 3) := by decide +kernel
theorem dX8_row_62 : decode cX8_row 62 = .ok (.aload_n 0, 1) := by decide +kernel
theorem dX8_row_63 : decode cX8_row 63 = .ok (.getfield 58, 3) := by decide +kernel
theorem dX8_row_66 : decode cX8_row 66 = .ok (.iload_n 1, 1) := by decide +kernel
theorem dX8_row_67 : decode cX8_row 67 = .ok (.aaload, 1) := by decide +kernel
theorem dX8_row_68 : decode cX8_row 68 = .ok (.iload_n 3, 1) := by decide +kernel
theorem dX8_row_69 : decode cX8_row 69 = .ok (.lconst 0, 1) := by decide +kernel
theorem dX8_row_70 : decode cX8_row 70 = .ok (.lastore, 1) := by decide +kernel
theorem dX8_row_71 : decode cX8_row 71 = .ok (.iinc 3 1, 3) := by decide +kernel
theorem dX8_row_74 : decode cX8_row 74 = .ok (.goto (-18), 3) := by decide +kernel
theorem dX8_row_77 : decode cX8_row 77 = .ok (.iconst 1, 1) := by decide +kernel
theorem dX8_row_78 : decode cX8_row 78 = .ok (.ireturn, 1) := by decide +kernel
theorem dX8_put_0 : decode cX8_put 0 = .ok (.aload_n 0, 1) := by decide +kernel
theorem dX8_put_1 : decode cX8_put 1 = .ok (.iload_n 1, 1) := by decide +kernel
theorem dX8_put_2 : decode cX8_put 2 = .ok (.invokevirtual 274, 3) := by decide +kernel
theorem dX8_put_5 : decode cX8_put 5 = .ok (.ifCond .ne 5, 3) := by decide +kernel
theorem dX8_put_8 : decode cX8_put 8 = .ok (.iconst (-1), 1) := by decide +kernel
theorem dX8_put_9 : decode cX8_put 9 = .ok (.ireturn, 1) := by decide +kernel
theorem dX8_put_10 : decode cX8_put 10 = .ok (.aload_n 0, 1) := by decide +kernel
theorem dX8_put_11 : decode cX8_put 11 = .ok (.getfield 41, 3) := by decide +kernel
theorem dX8_put_14 : decode cX8_put 14 = .ok (.iload_n 1, 1) := by decide +kernel
theorem dX8_put_15 : decode cX8_put 15 = .ok (.iaload, 1) := by decide +kernel
theorem dX8_put_16 : decode cX8_put 16 = .ok (.iconst 3, 1) := by decide +kernel
theorem dX8_put_17 : decode cX8_put 17 = .ok (.if_icmp .eq 20, 3) := by decide +kernel
theorem dX8_put_20 : decode cX8_put 20 = .ok (.aload_n 0, 1) := by decide +kernel
theorem dX8_put_21 : decode cX8_put 21 = .ok (.getfield 41, 3) := by decide +kernel
theorem dX8_put_24 : decode cX8_put 24 = .ok (.iload_n 1, 1) := by decide +kernel
theorem dX8_put_25 : decode cX8_put 25 = .ok (.iaload, 1) := by decide +kernel
theorem dX8_put_26 : decode cX8_put 26 = .ok (.ifCond .ne 8, 3) := by decide +kernel
theorem dX8_put_29 : decode cX8_put 29 = .ok (.bipush (-11), 2) := by decide +kernel
theorem dX8_put_31 : decode cX8_put 31 = .ok (.goto 5, 3) := by decide +kernel
theorem dX8_put_34 : decode cX8_put 34 = .ok (.bipush (-12), 2) := by decide +kernel
theorem dX8_put_36 : decode cX8_put 36 = .ok (.ireturn, 1) := by decide +kernel
theorem dX8_put_37 : decode cX8_put 37 = .ok (.iload_n 2, 1) := by decide +kernel
theorem dX8_put_38 : decode cX8_put 38 = .ok (.i2l, 1) := by decide +kernel
theorem dX8_put_39 : decode cX8_put 39 = .ok (.lconst 0, 1) := by decide +kernel
theorem dX8_put_40 : decode cX8_put 40 = .ok (.aload_n 0, 1) := by decide +kernel
theorem dX8_put_41 : decode cX8_put 41 = .ok (.getfield 53, 3) := by decide +kernel
theorem dX8_put_44 : decode cX8_put 44 = .ok (.iload_n 1, 1) := by decide +kernel
theorem dX8_put_45 : decode cX8_put 45 = .ok (.iaload, 1) := by decide +kernel
theorem dX8_put_46 : decode cX8_put 46 = .ok (.iconst 1, 1) := by decide +kernel
theorem dX8_put_47 : decode cX8_put 47 = .ok (.isub, 1) := by decide +kernel
theorem dX8_put_48 : decode cX8_put 48 = .ok (.i2l, 1) := by decide +kernel
theorem dX8_put_49 : decode cX8_put 49 = .ok (.invokestatic 85, 3) := by decide +kernel
theorem dX8_put_52 : decode cX8_put 52 = .ok (.ifCond .ne 6, 3) := by decide +kernel
theorem dX8_put_55 : decode cX8_put 55 = .ok (.bipush (-13), 2) := by decide +kernel
theorem dX8_put_57 : decode cX8_put 57 = .ok (.ireturn, 1) := by decide +kernel
theorem dX8_put_58 : decode cX8_put 58 = .ok (.aload_n 0, 1) := by decide +kernel
theorem dX8_put_59 : decode cX8_put 59 = .ok (.getfield 58, 3) := by decide +kernel
theorem dX8_put_62 : decode cX8_put 62 = .ok (.iload_n 1, 1) := by decide +kernel
theorem dX8_put_63 : decode cX8_put 63 = .ok (.aaload, 1) := by decide +kernel
theorem dX8_put_64 : decode cX8_put 64 = .ok (.iload_n 2, 1) := by decide +kernel
theorem dX8_put_65 : decode cX8_put 65 = .ok (.lload_n 3, 1) := by decide +kernel
theorem dX8_put_66 : decode cX8_put 66 = .ok (.lastore, 1) := by decide +kernel
theorem dX8_put_67 : decode cX8_put 67 = .ok (.iconst 1, 1) := by decide +kernel
theorem dX8_put_68 : decode cX8_put 68 = .ok (.ireturn, 1) := by decide +kernel
theorem dX8_tells_0 : decode cX8_tells 0 = .ok (.aload_n 0, 1) := by decide +kernel
theorem dX8_tells_1 : decode cX8_tells 1 = .ok (.iload_n 1, 1) := by decide +kernel
theorem dX8_tells_2 : decode cX8_tells 2 = .ok (.invokevirtual 274, 3) := by decide +kernel
theorem dX8_tells_5 : decode cX8_tells 5 = .ok (.ifCond .eq 15, 3) := by decide +kernel
theorem dX8_tells_8 : decode cX8_tells 8 = .ok (.iload_n 2, 1) := by decide +kernel
theorem dX8_tells_9 : decode cX8_tells 9 = .ok (.i2l, 1) := by decide +kernel
theorem dX8_tells_10 : decode cX8_tells 10 = .ok (.lconst 0, 1) := by decide +kernel
theorem dX8_tells_11 : decode cX8_tells 11 = .ok (.ldc2_w 92, 3) := by decide +kernel
theorem dX8_tells_14 : decode cX8_tells 14 = .ok (.invokestatic 85, 3) := by decide +kernel
theorem dX8_tells_17 : decode cX8_tells 17 = .ok (.ifCond .ne 7, 3) := by decide +kernel
theorem dX8_tells_20 : decode cX8_tells 20 = .ok (.ldc2_w 134, 3) := by decide +kernel
theorem dX8_tells_23 : decode cX8_tells 23 = .ok (.lreturn, 1) := by decide +kernel
theorem dX8_tells_24 : decode cX8_tells 24 = .ok (.aload_n 0, 1) := by decide +kernel
theorem dX8_tells_25 : decode cX8_tells 25 = .ok (.getfield 41, 3) := by decide +kernel
theorem dX8_tells_28 : decode cX8_tells 28 = .ok (.iload_n 1, 1) := by decide +kernel
theorem dX8_tells_29 : decode cX8_tells 29 = .ok (.iaload, 1) := by decide +kernel
theorem dX8_tells_30 : decode cX8_tells 30 = .ok (.ifCond .ne 7, 3) := by decide +kernel
theorem dX8_tells_33 : decode cX8_tells 33 = .ok (.ldc2_w 336, 3) := by decide +kernel
theorem dX8_tells_36 : decode cX8_tells 36 = .ok (.lreturn, 1) := by decide +kernel
theorem dX8_tells_37 : decode cX8_tells 37 = .ok (.aload_n 0, 1) := by decide +kernel
theorem dX8_tells_38 : decode cX8_tells 38 = .ok (.getfield 44, 3) := by decide +kernel
theorem dX8_tells_41 : decode cX8_tells 41 = .ok (.iload_n 1, 1) := by decide +kernel
theorem dX8_tells_42 : decode cX8_tells 42 = .ok (.iaload, 1) := by decide +kernel
theorem dX8_tells_43 : decode cX8_tells 43 = .ok (.istore_n 3, 1) := by decide +kernel
theorem dX8_tells_44 : decode cX8_tells 44 = .ok (.iload_n 2, 1) := by decide +kernel
theorem dX8_tells_45 : decode cX8_tells 45 = .ok (.tableswitch 112 0 2 #[27, 65, 89], 27) := by decide +kernel
theorem dX8_tells_72 : decode cX8_tells 72 = .ok (.aload_n 0, 1) := by decide +kernel
theorem dX8_tells_73 : decode cX8_tells 73 = .ok (.getfield 41, 3) := by decide +kernel
theorem dX8_tells_76 : decode cX8_tells 76 = .ok (.iload_n 1, 1) := by decide +kernel
theorem dX8_tells_77 : decode cX8_tells 77 = .ok (.iaload, 1) := by decide +kernel
theorem dX8_tells_78 : decode cX8_tells 78 = .ok (.iconst 3, 1) := by decide +kernel
theorem dX8_tells_79 : decode cX8_tells 79 = .ok (.if_icmp .ne 9, 3) := by decide +kernel
theorem dX8_tells_82 : decode cX8_tells 82 = .ok (.ldc2_w 338, 3) := by decide +kernel
theorem dX8_tells_85 : decode cX8_tells 85 = .ok (.goto 24, 3) := by decide +kernel
theorem dX8_tells_88 : decode cX8_tells 88 = .ok (.aload_n 0, 1) := by decide +kernel
theorem dX8_tells_89 : decode cX8_tells 89 = .ok (.getfield 41, 3) := by decide +kernel
theorem dX8_tells_92 : decode cX8_tells 92 = .ok (.iload_n 1, 1) := by decide +kernel
theorem dX8_tells_93 : decode cX8_tells 93 = .ok (.iaload, 1) := by decide +kernel
theorem dX8_tells_94 : decode cX8_tells 94 = .ok (.iconst 1, 1) := by decide +kernel
theorem dX8_tells_95 : decode cX8_tells 95 = .ok (.if_icmp .ne 8, 3) := by decide +kernel
theorem dX8_tells_98 : decode cX8_tells 98 = .ok (.iload_n 3, 1) := by decide +kernel
theorem dX8_tells_99 : decode cX8_tells 99 = .ok (.i2l, 1) := by decide +kernel
theorem dX8_tells_100 : decode cX8_tells 100 = .ok (.goto 9, 3) := by decide +kernel
theorem dX8_tells_103 : decode cX8_tells 103 = .ok (.aload_n 0, 1) := by decide +kernel
theorem dX8_tells_104 : decode cX8_tells 104 = .ok (.getfield 47, 3) := by decide +kernel
theorem dX8_tells_107 : decode cX8_tells 107 = .ok (.iload_n 1, 1) := by decide +kernel
theorem dX8_tells_108 : decode cX8_tells 108 = .ok (.laload, 1) := by decide +kernel
theorem dX8_tells_109 : decode cX8_tells 109 = .ok (.lreturn, 1) := by decide +kernel
theorem dX8_tells_110 : decode cX8_tells 110 = .ok (.aload_n 0, 1) := by decide +kernel
theorem dX8_tells_111 : decode cX8_tells 111 = .ok (.getfield 41, 3) := by decide +kernel
theorem dX8_tells_114 : decode cX8_tells 114 = .ok (.iload_n 1, 1) := by decide +kernel
theorem dX8_tells_115 : decode cX8_tells 115 = .ok (.iaload, 1) := by decide +kernel
theorem dX8_tells_116 : decode cX8_tells 116 = .ok (.iconst 1, 1) := by decide +kernel
theorem dX8_tells_117 : decode cX8_tells 117 = .ok (.if_icmp .ne 13, 3) := by decide +kernel
theorem dX8_tells_120 : decode cX8_tells 120 = .ok (.aload_n 0, 1) := by decide +kernel
theorem dX8_tells_121 : decode cX8_tells 121 = .ok (.iload_n 3, 1) := by decide +kernel
theorem dX8_tells_122 : decode cX8_tells 122 = .ok (.bipush 8, 2) := by decide +kernel
theorem dX8_tells_124 : decode cX8_tells 124 = .ok (.invokevirtual 136, 3) := by decide +kernel
theorem dX8_tells_127 : decode cX8_tells 127 = .ok (.goto 6, 3) := by decide +kernel
theorem dX8_tells_130 : decode cX8_tells 130 = .ok (.ldc2_w 338, 3) := by decide +kernel
theorem dX8_tells_133 : decode cX8_tells 133 = .ok (.lreturn, 1) := by decide +kernel
theorem dX8_tells_134 : decode cX8_tells 134 = .ok (.aload_n 0, 1) := by decide +kernel
theorem dX8_tells_135 : decode cX8_tells 135 = .ok (.getfield 41, 3) := by decide +kernel
theorem dX8_tells_138 : decode cX8_tells 138 = .ok (.iload_n 1, 1) := by decide +kernel
theorem dX8_tells_139 : decode cX8_tells 139 = .ok (.iaload, 1) := by decide +kernel
theorem dX8_tells_140 : decode cX8_tells 140 = .ok (.iconst 2, 1) := by decide +kernel
theorem dX8_tells_141 : decode cX8_tells 141 = .ok (.if_icmp .ne 12, 3) := by decide +kernel
theorem dX8_tells_144 : decode cX8_tells 144 = .ok (.aload_n 0, 1) := by decide +kernel
theorem dX8_tells_145 : decode cX8_tells 145 = .ok (.getfield 50, 3) := by decide +kernel
theorem dX8_tells_148 : decode cX8_tells 148 = .ok (.iload_n 1, 1) := by decide +kernel
theorem dX8_tells_149 : decode cX8_tells 149 = .ok (.laload, 1) := by decide +kernel
theorem dX8_tells_150 : decode cX8_tells 150 = .ok (.goto 6, 3) := by decide +kernel
theorem dX8_tells_153 : decode cX8_tells 153 = .ok (.ldc2_w 338, 3) := by decide +kernel
theorem dX8_tells_156 : decode cX8_tells 156 = .ok (.lreturn, 1) := by decide +kernel
theorem dX8_tells_157 : decode cX8_tells 157 = .ok (.aload_n 0, 1) := by decide +kernel
theorem dX8_tells_158 : decode cX8_tells 158 = .ok (.getfield 41, 3) := by decide +kernel
theorem dX8_tells_161 : decode cX8_tells 161 = .ok (.iload_n 1, 1) := by decide +kernel
theorem dX8_tells_162 : decode cX8_tells 162 = .ok (.iaload, 1) := by decide +kernel
theorem dX8_tells_163 : decode cX8_tells 163 = .ok (.iconst 1, 1) := by decide +kernel
theorem dX8_tells_164 : decode cX8_tells 164 = .ok (.if_icmp .ne 24, 3) := by decide +kernel
theorem dX8_tells_167 : decode cX8_tells 167 = .ok (.aload_n 0, 1) := by decide +kernel
theorem dX8_tells_168 : decode cX8_tells 168 = .ok (.iload_n 3, 1) := by decide +kernel
theorem dX8_tells_169 : decode cX8_tells 169 = .ok (.iconst 3, 1) := by decide +kernel
theorem dX8_tells_170 : decode cX8_tells 170 = .ok (.invokevirtual 136, 3) := by decide +kernel
theorem dX8_tells_173 : decode cX8_tells 173 = .ok (.lconst 0, 1) := by decide +kernel
theorem dX8_tells_174 : decode cX8_tells 174 = .ok (.lcmp, 1) := by decide +kernel
theorem dX8_tells_175 : decode cX8_tells 175 = .ok (.ifCond .ne 13, 3) := by decide +kernel
theorem dX8_tells_178 : decode cX8_tells 178 = .ok (.aload_n 0, 1) := by decide +kernel
theorem dX8_tells_179 : decode cX8_tells 179 = .ok (.iload_n 3, 1) := by decide +kernel
theorem dX8_tells_180 : decode cX8_tells 180 = .ok (.bipush 9, 2) := by decide +kernel
theorem dX8_tells_182 : decode cX8_tells 182 = .ok (.invokevirtual 136, 3) := by decide +kernel
theorem dX8_tells_185 : decode cX8_tells 185 = .ok (.goto 6, 3) := by decide +kernel
theorem dX8_tells_188 : decode cX8_tells 188 = .ok (.ldc2_w 338, 3) := by decide +kernel
theorem dX8_tells_191 : decode cX8_tells 191 = .ok (.lreturn, 1) := by decide +kernel
theorem dX8_bills_0 : decode cX8_bills 0 = .ok (.iconst 0, 1) := by decide +kernel
theorem dX8_bills_1 : decode cX8_bills 1 = .ok (.istore_n 1, 1) := by decide +kernel
theorem dX8_bills_2 : decode cX8_bills 2 = .ok (.iconst 0, 1) := by decide +kernel
theorem dX8_bills_3 : decode cX8_bills 3 = .ok (.istore_n 2, 1) := by decide +kernel
theorem dX8_bills_4 : decode cX8_bills 4 = .ok (.iload_n 2, 1) := by decide +kernel
theorem dX8_bills_5 : decode cX8_bills 5 = .ok (.i2l, 1) := by decide +kernel
theorem dX8_bills_6 : decode cX8_bills 6 = .ok (.aload_n 0, 1) := by decide +kernel
theorem dX8_bills_7 : decode cX8_bills 7 = .ok (.getfield 9, 3) := by decide +kernel
theorem dX8_bills_10 : decode cX8_bills 10 = .ok (.sipush 2520, 3) := by decide +kernel
theorem dX8_bills_13 : decode cX8_bills 13 = .ok (.laload, 1) := by decide +kernel
theorem dX8_bills_14 : decode cX8_bills 14 = .ok (.lcmp, 1) := by decide +kernel
theorem dX8_bills_15 : decode cX8_bills 15 = .ok (.ifCond .ge 21, 3) := by decide +kernel
theorem dX8_bills_18 : decode cX8_bills 18 = .ok (.iload_n 1, 1) := by decide +kernel
theorem dX8_bills_19 : decode cX8_bills 19 = .ok (.i2l, 1) := by decide +kernel
theorem dX8_bills_20 : decode cX8_bills 20 = .ok (.aload_n 0, 1) := by decide +kernel
theorem dX8_bills_21 : decode cX8_bills 21 = .ok (.iload_n 2, 1) := by decide +kernel
theorem dX8_bills_22 : decode cX8_bills 22 = .ok (.bipush 14, 2) := by decide +kernel
theorem dX8_bills_24 : decode cX8_bills 24 = .ok (.invokevirtual 136, 3) := by decide +kernel
theorem dX8_bills_27 : decode cX8_bills 27 = .ok (.ladd, 1) := by decide +kernel
theorem dX8_bills_28 : decode cX8_bills 28 = .ok (.l2i, 1) := by decide +kernel
theorem dX8_bills_29 : decode cX8_bills 29 = .ok (.istore_n 1, 1) := by decide +kernel
theorem dX8_bills_30 : decode cX8_bills 30 = .ok (.iinc 2 1, 3) := by decide +kernel
theorem dX8_bills_33 : decode cX8_bills 33 = .ok (.goto (-29), 3) := by decide +kernel
theorem dX8_bills_36 : decode cX8_bills 36 = .ok (.iload_n 1, 1) := by decide +kernel
theorem dX8_bills_37 : decode cX8_bills 37 = .ok (.ireturn, 1) := by decide +kernel
theorem dX8_count_0 : decode cX8_count 0 = .ok (.iconst 0, 1) := by decide +kernel
theorem dX8_count_1 : decode cX8_count 1 = .ok (.istore_n 2, 1) := by decide +kernel
theorem dX8_count_2 : decode cX8_count 2 = .ok (.iload_n 1, 1) := by decide +kernel
theorem dX8_count_3 : decode cX8_count 3 = .ok (.tableswitch 184 0 7 #[45, 55, 60, 70, 80, 90, 146, 151], 45) := by decide +kernel
theorem dX8_count_48 : decode cX8_count 48 = .ok (.aload_n 0, 1) := by decide +kernel
theorem dX8_count_49 : decode cX8_count 49 = .ok (.getfield 9, 3) := by decide +kernel
theorem dX8_count_52 : decode cX8_count 52 = .ok (.sipush 2520, 3) := by decide +kernel
theorem dX8_count_55 : decode cX8_count 55 = .ok (.laload, 1) := by decide +kernel
theorem dX8_count_56 : decode cX8_count 56 = .ok (.l2i, 1) := by decide +kernel
theorem dX8_count_57 : decode cX8_count 57 = .ok (.ireturn, 1) := by decide +kernel
theorem dX8_count_58 : decode cX8_count 58 = .ok (.aload_n 0, 1) := by decide +kernel
theorem dX8_count_59 : decode cX8_count 59 = .ok (.invokevirtual 340, 3) := by decide +kernel
theorem dX8_count_62 : decode cX8_count 62 = .ok (.ireturn, 1) := by decide +kernel
theorem dX8_count_63 : decode cX8_count 63 = .ok (.aload_n 0, 1) := by decide +kernel
theorem dX8_count_64 : decode cX8_count 64 = .ok (.getfield 9, 3) := by decide +kernel
theorem dX8_count_67 : decode cX8_count 67 = .ok (.sipush 2521, 3) := by decide +kernel
theorem dX8_count_70 : decode cX8_count 70 = .ok (.laload, 1) := by decide +kernel
theorem dX8_count_71 : decode cX8_count 71 = .ok (.l2i, 1) := by decide +kernel
theorem dX8_count_72 : decode cX8_count 72 = .ok (.ireturn, 1) := by decide +kernel
theorem dX8_count_73 : decode cX8_count 73 = .ok (.aload_n 0, 1) := by decide +kernel
theorem dX8_count_74 : decode cX8_count 74 = .ok (.getfield 9, 3) := by decide +kernel
theorem dX8_count_77 : decode cX8_count 77 = .ok (.sipush 2522, 3) := by decide +kernel
theorem dX8_count_80 : decode cX8_count 80 = .ok (.laload, 1) := by decide +kernel
theorem dX8_count_81 : decode cX8_count 81 = .ok (.l2i, 1) := by decide +kernel
theorem dX8_count_82 : decode cX8_count 82 = .ok (.ireturn, 1) := by decide +kernel
theorem dX8_count_83 : decode cX8_count 83 = .ok (.aload_n 0, 1) := by decide +kernel
theorem dX8_count_84 : decode cX8_count 84 = .ok (.getfield 9, 3) := by decide +kernel
theorem dX8_count_87 : decode cX8_count 87 = .ok (.sipush 2523, 3) := by decide +kernel
theorem dX8_count_90 : decode cX8_count 90 = .ok (.laload, 1) := by decide +kernel
theorem dX8_count_91 : decode cX8_count 91 = .ok (.l2i, 1) := by decide +kernel
theorem dX8_count_92 : decode cX8_count 92 = .ok (.ireturn, 1) := by decide +kernel
theorem dX8_count_93 : decode cX8_count 93 = .ok (.iconst 0, 1) := by decide +kernel
theorem dX8_count_94 : decode cX8_count 94 = .ok (.istore_n 3, 1) := by decide +kernel
theorem dX8_count_95 : decode cX8_count 95 = .ok (.iload_n 3, 1) := by decide +kernel
theorem dX8_count_96 : decode cX8_count 96 = .ok (.i2l, 1) := by decide +kernel
theorem dX8_count_97 : decode cX8_count 97 = .ok (.aload_n 0, 1) := by decide +kernel
theorem dX8_count_98 : decode cX8_count 98 = .ok (.getfield 9, 3) := by decide +kernel
theorem dX8_count_101 : decode cX8_count 101 = .ok (.sipush 2520, 3) := by decide +kernel
theorem dX8_count_104 : decode cX8_count 104 = .ok (.laload, 1) := by decide +kernel
theorem dX8_count_105 : decode cX8_count 105 = .ok (.lcmp, 1) := by decide +kernel
theorem dX8_count_106 : decode cX8_count 106 = .ok (.ifCond .ge 41, 3) := by decide +kernel
theorem dX8_count_109 : decode cX8_count 109 = .ok (.iload_n 2, 1) := by decide +kernel
theorem dX8_count_110 : decode cX8_count 110 = .ok (.aload_n 0, 1) := by decide +kernel
theorem dX8_count_111 : decode cX8_count 111 = .ok (.iload_n 3, 1) := by decide +kernel
theorem dX8_count_112 : decode cX8_count 112 = .ok (.bipush 8, 2) := by decide +kernel
theorem dX8_count_114 : decode cX8_count 114 = .ok (.invokevirtual 136, 3) := by decide +kernel
theorem dX8_count_117 : decode cX8_count 117 = .ok (.lconst 0, 1) := by decide +kernel
theorem dX8_count_118 : decode cX8_count 118 = .ok (.lcmp, 1) := by decide +kernel
theorem dX8_count_119 : decode cX8_count 119 = .ok (.ifCond .ne 19, 3) := by decide +kernel
theorem dX8_count_122 : decode cX8_count 122 = .ok (.aload_n 0, 1) := by decide +kernel
theorem dX8_count_123 : decode cX8_count 123 = .ok (.iload_n 3, 1) := by decide +kernel
theorem dX8_count_124 : decode cX8_count 124 = .ok (.bipush 14, 2) := by decide +kernel
theorem dX8_count_126 : decode cX8_count 126 = .ok (.invokevirtual 136, 3) := by decide +kernel
theorem dX8_count_129 : decode cX8_count 129 = .ok (.lconst 0, 1) := by decide +kernel
theorem dX8_count_130 : decode cX8_count 130 = .ok (.lcmp, 1) := by decide +kernel
theorem dX8_count_131 : decode cX8_count 131 = .ok (.ifCond .ne 7, 3) := by decide +kernel
theorem dX8_count_134 : decode cX8_count 134 = .ok (.iconst 1, 1) := by decide +kernel
theorem dX8_count_135 : decode cX8_count 135 = .ok (.goto 4, 3) := by decide +kernel
theorem dX8_count_138 : decode cX8_count 138 = .ok (.iconst 0, 1) := by decide +kernel
theorem dX8_count_139 : decode cX8_count 139 = .ok (.iadd, 1) := by decide +kernel
theorem dX8_count_140 : decode cX8_count 140 = .ok (.istore_n 2, 1) := by decide +kernel
theorem dX8_count_141 : decode cX8_count 141 = .ok (.iinc 3 1, 3) := by decide +kernel
theorem dX8_count_144 : decode cX8_count 144 = .ok (.goto (-49), 3) := by decide +kernel
theorem dX8_count_147 : decode cX8_count 147 = .ok (.iload_n 2, 1) := by decide +kernel
theorem dX8_count_148 : decode cX8_count 148 = .ok (.ireturn, 1) := by decide +kernel
theorem dX8_count_149 : decode cX8_count 149 = .ok (.aload_n 0, 1) := by decide +kernel
theorem dX8_count_150 : decode cX8_count 150 = .ok (.getfield 279, 3) := by decide +kernel
theorem dX8_count_153 : decode cX8_count 153 = .ok (.ireturn, 1) := by decide +kernel
theorem dX8_count_154 : decode cX8_count 154 = .ok (.iconst 0, 1) := by decide +kernel
theorem dX8_count_155 : decode cX8_count 155 = .ok (.istore_n 3, 1) := by decide +kernel
theorem dX8_count_156 : decode cX8_count 156 = .ok (.iload_n 3, 1) := by decide +kernel
theorem dX8_count_157 : decode cX8_count 157 = .ok (.bipush 6, 2) := by decide +kernel
theorem dX8_count_159 : decode cX8_count 159 = .ok (.if_icmp .ge 26, 3) := by decide +kernel
theorem dX8_count_162 : decode cX8_count 162 = .ok (.iload_n 2, 1) := by decide +kernel
theorem dX8_count_163 : decode cX8_count 163 = .ok (.aload_n 0, 1) := by decide +kernel
theorem dX8_count_164 : decode cX8_count 164 = .ok (.getfield 41, 3) := by decide +kernel
theorem dX8_count_167 : decode cX8_count 167 = .ok (.iload_n 3, 1) := by decide +kernel
theorem dX8_count_168 : decode cX8_count 168 = .ok (.iaload, 1) := by decide +kernel
theorem dX8_count_169 : decode cX8_count 169 = .ok (.ifCond .eq 7, 3) := by decide +kernel
theorem dX8_count_172 : decode cX8_count 172 = .ok (.iconst 1, 1) := by decide +kernel
theorem dX8_count_173 : decode cX8_count 173 = .ok (.goto 4, 3) := by decide +kernel
theorem dX8_count_176 : decode cX8_count 176 = .ok (.iconst 0, 1) := by decide +kernel
theorem dX8_count_177 : decode cX8_count 177 = .ok (.iadd, 1) := by decide +kernel
theorem dX8_count_178 : decode cX8_count 178 = .ok (.istore_n 2, 1) := by decide +kernel
theorem dX8_count_179 : decode cX8_count 179 = .ok (.iinc 3 1, 3) := by decide +kernel
theorem dX8_count_182 : decode cX8_count 182 = .ok (.goto (-26), 3) := by decide +kernel
theorem dX8_count_185 : decode cX8_count 185 = .ok (.iload_n 2, 1) := by decide +kernel
theorem dX8_count_186 : decode cX8_count 186 = .ok (.ireturn, 1) := by decide +kernel
theorem dX8_count_187 : decode cX8_count 187 = .ok (.iconst (-1), 1) := by decide +kernel
theorem dX8_count_188 : decode cX8_count 188 = .ok (.ireturn, 1) := by decide +kernel
end
section
/-! THE WORLD BEHIND THE CONSTRUCTORS: 226 cells at addresses ad 0 .. ad 225, of fixed kinds; references never change; what changes is two functions (ints, longs) of cell and place. -/
abbrev cls7 : List vw_C := [(RX1, TX1, 5), (RX3, TX3, 5), (RX4, TX4, 19), (RX5, TX5, 5), (RX6, TX6, 5), (RX7, TX7, 8), (RX8, TX8, 22)]
abbrev St : Type := (Nat → Nat → Int32) × (Nat → Nat → Int64)
/-- kinds of cells: below 7 an object of that class of cls7; 10 int[], 11 long[], 12 boolean[], 13 Holder[], 14 Loan[], 15 long[][]; with lengths -/
def kd_loan : List (Nat × Nat) := [(2, 0), (10, 61), (11, 61), (11, 61), (11, 61), (11, 61), (12, 61)]
def kd_loans : Nat → List (Nat × Nat)
  | 0 => []
  | n + 1 => kd_loan ++ kd_loans n
def kd_holders : Nat → List (Nat × Nat)
  | 0 => []
  | n + 1 => [(1, 0), (11, 60)] ++ kd_holders n
def kd_book : List (Nat × Nat) := [(0, 0), (14, 8)] ++ kd_loans 8
def kd_model : List (Nat × Nat) := [(6, 0), (11, 2524), (11, 2524), (11, 2524), (11, 2524), (10, 60), (11, 60), (11, 60), (11, 60), (11, 6), (10, 120), (10, 6), (10, 6), (11, 6), (11, 6), (10, 6), (15, 6), (11, 60), (11, 60), (11, 60), (11, 60), (11, 60), (11, 60), (10, 6)]
def kdL : List (Nat × Nat) := [(5, 0)] ++ kd_book ++ kd_book ++ kd_book ++ kd_loan ++ [(3, 0), (11, 61), (11, 61), (11, 61)] ++ [(4, 0), (10, 120), (10, 6)] ++ [(13, 6)] ++ kd_holders 6 ++ kd_model
def kd0 (c : Nat) : Nat × Nat := kdL.getD c (99, 0)
theorem kdL_len : kdL.length = 226 := by decide +kernel
def rf_book : List (Option Nat) := [some 1, some 59, some 117, none, some 175, some 182, some 186, some 189]
def rf_model : List (Option Nat) := [some 203, some 204, some 205, some 206, none, some 207, some 208, some 209, some 210, none, some 211, some 212, none, some 213, some 214, some 215, some 216, some 217, some 218, none, none, some 225]
/-- the references that stand in a cell -/
def R0 (c k : Nat) : Option Nat :=
  if (kd0 c).1 = 0 then (if k = 4 then some (c + 1) else none)
  else if (kd0 c).1 = 1 then (if k = 4 then some (c + 1) else none)
  else if (kd0 c).1 = 2 then (if 13 ≤ k ∧ k < 19 then some (c + k - 12) else none)
  else if (kd0 c).1 = 3 then (if 2 ≤ k ∧ k < 5 then some (c + k - 1) else none)
  else if (kd0 c).1 = 4 then (if 3 ≤ k ∧ k < 5 then some (c + k - 2) else none)
  else if (kd0 c).1 = 5 then rf_book.getD k none
  else if (kd0 c).1 = 6 then rf_model.getD k none
  else if (kd0 c).1 = 13 then (if k < 6 then some (c + 1 + 2 * k) else none)
  else if (kd0 c).1 = 14 then (if k < 8 then some (c + 1 + 7 * k) else none)
  else if (kd0 c).1 = 15 then (if k < 6 then some (c + 1 + k) else none)
  else none
/-- the fields of a class: 0 int (boolean), 1 long, 2 a reference -/
def fty (ci : Nat) : List Nat := [[0, 0, 0, 0, 2], [0, 0, 0, 1, 2], [1, 1, 1, 1, 1, 1, 1, 0, 0, 0, 0, 0, 0, 2, 2, 2, 2, 2, 2], [0, 0, 2, 2, 2], [0, 0, 0, 2, 2], [2, 2, 2, 0, 2, 2, 2, 2], [2, 2, 2, 2, 0, 2, 2, 2, 2, 0, 2, 2, 0, 2, 2, 2, 2, 2, 2, 0, 0, 2]].getD ci []
/-- addresses, class numbers and slots of cls7, array classes (0 int[] .. 5 long[][]) -/
abbrev ZT : Type := (Nat → Nat) × va_G × (Nat → ClassId)
def fv (ad : Nat → Nat) (S : St) (c k t : Nat) : Value := if t = 0 then .int (S.1 c k) else if t = 1 then .long (S.2 c k) else va_rf ((R0 c k).map ad)
def flds (ad : Nat → Nat) (S : St) (c : Nat) (ts : List Nat) : List Value := ts.mapIdx (fun k t => fv ad S c k t)
def ent (Z : ZT) (S : St) (c : Nat) : va_E :=
  if (kd0 c).1 < 7 then .inr ((kd0 c).1, flds Z.1 S c (fty (kd0 c).1))
  else if (kd0 c).1 = 10 then .inl (Z.2.2 0, (kd0 c).2, .inl (S.1 c))
  else if (kd0 c).1 = 11 then .inl (Z.2.2 1, (kd0 c).2, .inr (.inl (S.2 c)))
  else if (kd0 c).1 = 12 then .inl (Z.2.2 2, (kd0 c).2, .inl (S.1 c))
  else .inl (Z.2.2 ((kd0 c).1 - 10), (kd0 c).2, .inr (.inr (.inr (.inr (fun i => (R0 c i).map Z.1)))))
def wsO (Z : ZT) (S : St) : va_W := (List.range 226).map (fun c => (Z.1 c, ent Z S c))
def tyz (Z : ZT) : List (ClassId × FieldType) := [(Z.2.2 0, .int), (Z.2.2 1, .long), (Z.2.2 2, .boolean), (Z.2.2 3, .object "LoanBook$Holder"), (Z.2.2 4, .object "LoanBook$Loan"), (Z.2.2 5, .array .long)]
def zA (Z : ZT) : Nat → Prop := fun q => ∃ c, c < 226 ∧ q = Z.1 c
def Rep (Z : ZT) (S : St) (H : Heap) : Prop := va_P Z.2.1 cls7 (wsO Z S) H
def setI (S : St) (c k : Nat) (v : Int32) : St := (fun a j => if a = c then (if j = k then v else S.1 a j) else S.1 a j, S.2)
def setL (S : St) (c k : Nat) (v : Int64) : St := (S.1, fun a j => if a = c then (if j = k then v else S.2 a j) else S.2 a j)
/-- a whole array anew -/
def rowI (S : St) (c : Nat) (f : Nat → Int32) : St := (fun a j => if a = c then f j else S.1 a j, S.2)
def rowL (S : St) (c : Nat) (f : Nat → Int64) : St := (S.1, fun a j => if a = c then f j else S.2 a j)
/-- days ahead of a month in a common year -/
def daL : List Int32 := [0, 31, 59, 90, 120, 151, 181, 212, 243, 273, 304, 334]
def daT (j : Nat) : Int32 := daL.getD j 0
/-- what of the start stays as it is: tables, the static row, addresses apart -/
def KS (Z : ZT) (U : State) : Prop := va_K Z.2.1 cls7 (tyz Z) U ∧ va_Z "LoanBook$Dates" "DAYS_AHEAD" "[I" (.ref (Z.1 226)) (zA Z) U U.heap ∧ va_T .int (Z.1 226) 12 (fun j => .int (daT j)) (zA Z) U U.heap ∧ (∀ i j, i < 226 → j < 226 → Z.1 i = Z.1 j → i = j) ∧ va_Nw (.methodLinkNest "LoanBook$Book" 37 ⟨"LoanBook", "isRate", "(I)Z"⟩ "LoanBook") U ∧ va_Nw (.methodLinkNest "LoanBook$Book" 41 ⟨"LoanBook", "isWithin", "(III)Z"⟩ "LoanBook") U
theorem wsO_at (Z : ZT) (S : St) {c : Nat} (h : c < 226) : (wsO Z S)[c]? = some (Z.1 c, ent Z S c) := by
  simp [wsO, h]
theorem kd_lt {c k n : Nat} (h : kd0 c = (k, n)) (hk : k ≠ 99) : c < 226 := by
  by_cases hc : c < 226
  · exact hc
  · exfalso
    have : kd0 c = (99, 0) := by
      unfold kd0
      rw [List.getD_eq_getElem?_getD, List.getElem?_eq_none (by rw [kdL_len]; omega)]
      rfl
    rw [this] at h
    exact hk (congrArg Prod.fst h).symm
theorem map_range_set {α : Type} (n : Nat) (f g : Nat → α) (c : Nat) (x : α) (hc : g c = x) (ho : ∀ j, j ≠ c → g j = f j) : ((List.range n).map f).set c x = (List.range n).map g := by
  apply List.ext_getElem?
  intro i
  by_cases hi : i < n
  · by_cases he : i = c
    · subst he
      rw [List.getElem?_set_self (by simpa using hi)]
      simp [hi, hc]
    · rw [List.getElem?_set_ne (by omega)]
      simp [hi, ho i he]
  · rw [List.getElem?_eq_none (by simp; omega), List.getElem?_eq_none (by simp; omega)]
theorem zD {Z : ZT} {U : State} (h : KS Z U) (S : St) : va_D (zA Z) (wsO Z S) := by
  refine ⟨fun i j x y hi hj hxy => ?_, fun k q hq => ?_⟩
  · have h1 : i < 226 := by have := (List.getElem?_eq_some_iff.mp hi).1; simpa [wsO] using this
    have h2 : j < 226 := by have := (List.getElem?_eq_some_iff.mp hj).1; simpa [wsO] using this
    rw [wsO_at Z S h1] at hi
    rw [wsO_at Z S h2] at hj
    cases hi
    cases hj
    exact h.2.2.2.1 i j h1 h2 hxy
  · have h1 : k < 226 := by have := (List.getElem?_eq_some_iff.mp hq).1; simpa [wsO] using this
    rw [wsO_at Z S h1] at hq
    cases hq
    exact ⟨k, h1, rfl⟩
theorem flds_at (ad : Nat → Nat) (S : St) (c : Nat) (ts : List Nat) (k t : Nat) (h : ts[k]? = some t) : (flds ad S c ts)[k]? = some (fv ad S c k t) := by
  simp [flds, List.getElem?_mapIdx, h]
theorem flds_setI (ad : Nat → Nat) (S : St) (c k : Nat) (v : Int32) (ts : List Nat) (h : ts[k]? = some 0) : (flds ad S c ts).set k (.int v) = flds ad (setI S c k v) c ts := by
  apply List.ext_getElem?
  intro i
  by_cases he : i = k
  · subst he
    have hl : i < (flds ad S c ts).length := by
      have := (List.getElem?_eq_some_iff.mp h).1
      simpa [flds] using this
    rw [List.getElem?_set_self hl, flds_at _ _ _ _ _ _ h]
    simp [fv, setI]
  · rw [List.getElem?_set_ne (by omega)]
    simp only [flds, List.getElem?_mapIdx]
    congr 1
    funext t
    simp [fv, setI, he]
theorem flds_setL (ad : Nat → Nat) (S : St) (c k : Nat) (v : Int64) (ts : List Nat) (h : ts[k]? = some 1) : (flds ad S c ts).set k (.long v) = flds ad (setL S c k v) c ts := by
  apply List.ext_getElem?
  intro i
  by_cases he : i = k
  · subst he
    have hl : i < (flds ad S c ts).length := by
      have := (List.getElem?_eq_some_iff.mp h).1
      simpa [flds] using this
    rw [List.getElem?_set_self hl, flds_at _ _ _ _ _ _ h]
    simp [fv, setL]
  · rw [List.getElem?_set_ne (by omega)]
    simp only [flds, List.getElem?_mapIdx]
    congr 1
    funext t
    simp [fv, setL, he]
theorem ent_obj {Z : ZT} {S : St} {c ci n : Nat} (h : kd0 c = (ci, n)) (hc : ci < 7) : ent Z S c = .inr (ci, flds Z.1 S c (fty ci)) := by
  simp [ent, h, hc]
theorem ent_I {Z : ZT} {S : St} {c n : Nat} (h : kd0 c = (10, n)) : ent Z S c = .inl (Z.2.2 0, n, .inl (S.1 c)) := by
  simp [ent, h]
theorem ent_J {Z : ZT} {S : St} {c n : Nat} (h : kd0 c = (11, n)) : ent Z S c = .inl (Z.2.2 1, n, .inr (.inl (S.2 c))) := by
  simp [ent, h]
theorem ent_Z {Z : ZT} {S : St} {c n : Nat} (h : kd0 c = (12, n)) : ent Z S c = .inl (Z.2.2 2, n, .inl (S.1 c)) := by
  simp [ent, h]
theorem ent_Q {Z : ZT} {S : St} {c k n : Nat} (h : kd0 c = (k, n)) (hk : k = 13 ∨ k = 14 ∨ k = 15) : ent Z S c = .inl (Z.2.2 (k - 10), n, .inr (.inr (.inr (.inr (fun i => (R0 c i).map Z.1))))) := by
  rcases hk with rfl | rfl | rfl <;> simp [ent, h]
/-- two states that differ at one cell alone -/
def offc (S S' : St) (c : Nat) : Prop := ∀ a, a ≠ c → S'.1 a = S.1 a ∧ S'.2 a = S.2 a
theorem ent_off {Z : ZT} {S S' : St} {c : Nat} (h : offc S S' c) {a : Nat} (ha : a ≠ c) : ent Z S' a = ent Z S a := by
  obtain ⟨h1, h2⟩ := h a ha
  unfold ent flds fv
  rw [h1, h2]
theorem wsO_set {Z : ZT} {S S' : St} {c : Nat} (h : offc S S' c) {e : va_E} (he : ent Z S' c = e) : (wsO Z S).set c (Z.1 c, e) = wsO Z S' := by
  unfold wsO
  exact map_range_set _ _ _ _ _ (by rw [he]) (fun j hj => by rw [ent_off h hj])
theorem offc_setI (S : St) (c k : Nat) (v : Int32) : offc S (setI S c k v) c := fun a ha => ⟨by funext j; simp [setI, ha], rfl⟩
theorem offc_setL (S : St) (c k : Nat) (v : Int64) : offc S (setL S c k v) c := fun a ha => ⟨rfl, by funext j; simp [setL, ha]⟩
theorem offc_rowI (S : St) (c : Nat) (f : Nat → Int32) : offc S (rowI S c f) c := fun a ha => ⟨by funext j; simp [rowI, ha], rfl⟩
theorem offc_rowL (S : St) (c : Nat) (f : Nat → Int64) : offc S (rowL S c f) c := fun a ha => ⟨rfl, by funext j; simp [rowL, ha]⟩
theorem KS.calling {Z : ZT} {U : State} {g : JFrame} {mk : MethodId} {a : Array Value} (h : KS Z U) : KS Z (U.calling g mk a) :=
  ⟨va_K.moved (u := U) (U := U.calling g mk a) (Vm.Alike.refl U.vm) h.1, va_Z.moved (u := U) (U := U.calling g mk a) (Vm.Alike.refl U.vm) h.2.1, va_T.moved (u := U) (U := U.calling g mk a) (Vm.Alike.refl U.vm) h.2.2.1, h.2.2.2.1, va_Nw.same (u := U) (U := U.calling g mk a) rfl rfl h.2.2.2.2.1, va_Nw.same (u := U) (U := U.calling g mk a) rfl rfl h.2.2.2.2.2⟩
theorem KS.goes {Z : ZT} {s U : State} {H : Heap} {locs : List Loc} (h : KS Z s) (hS : va_S (zA Z) s.heap H locs) (hU : U.heap = H) (hW : s.WarmedH U.vm) : KS Z U := by
  subst hU
  exact ⟨va_K.moved hW.alike h.1, va_Z.moved hW.alike (h.2.1.kept (fun a h1 h2 => hS.2.1 a h1 h2)), va_T.moved hW.alike (h.2.2.1.kept (fun a h1 h2 => hS.2.1 a h1 h2)), h.2.2.2.1, va_Nw.warmM hW h.2.2.2.2.1, va_Nw.warmM hW h.2.2.2.2.2⟩
end
section
/-! A JUDGEMENT OF ONE'S OWN over the kit's W: 'from here the method comes to its end as the pure function o says'. A row an instruction. -/
def lw_good : List Cond := lw_tbl.filter goodWord
theorem gw {w : Cond} (i : Nat) (h : lw_tbl[i]? = some w) (hg : goodWord w = true) : w ∈ lw_good := List.mem_filter.mpr ⟨List.mem_of_getElem? h, hg⟩
theorem lw_good_in : GoodIn lw_good lw_good := fun w h => ⟨h, good_of_word (List.mem_filter.mp h).2⟩
def tr (Z : ZT) (v : Value) : Value := match v with
  | .ref c => .ref (Z.1 c)
  | v => v
def trs (Z : ZT) (st : List Value) : List Value := st.map (tr Z)
def trl (Z : ZT) (lv : List (Nat × Value)) : List (Nat × Value) := lv.map (fun q => (q.1, tr Z q.2))
theorem tr_cat (Z : ZT) (v : Value) : (tr Z v).category = v.category := by cases v <;> rfl
theorem trs_cat (Z : ZT) (st : List Value) : ((trs Z st).map fun v => v.category) = st.map fun v => v.category := by
  simp [trs, List.map_map, Function.comp_def, tr_cat]
theorem trl_at {Z : ZT} {lv : List (Nat × Value)} {k i : Nat} {v : Value} (h : lv[k]? = some (i, v)) : (trl Z lv)[k]? = some (i, tr Z v) := by
  simp [trl, h]
theorem trl_f1 (Z : ZT) (lv : List (Nat × Value)) (i : Nat) : (trl Z lv).filter (fun q => !(q.1 == i) && !(q.1 + 1 == i && q.2.category == 2)) = trl Z (lv.filter (fun q => !(q.1 == i) && !(q.1 + 1 == i && q.2.category == 2))) := by
  unfold trl
  rw [List.filter_map]
  congr 1
  apply List.filter_congr
  intro q _
  simp [tr_cat]
theorem trl_f2 (Z : ZT) (lv : List (Nat × Value)) (i : Nat) : (trl Z lv).filter (fun q => !(q.1 == i) && (!(q.1 == i + 1) && !(q.1 + 1 == i && q.2.category == 2))) = trl Z (lv.filter (fun q => !(q.1 == i) && (!(q.1 == i + 1) && !(q.1 + 1 == i && q.2.category == 2)))) := by
  unfold trl
  rw [List.filter_map]
  congr 1
  apply List.filter_congr
  intro q _
  simp [tr_cat]
/-- a method's end: what it answers, and the world behind it -/
def QX (Z : ZT) (v : Option Value) (S' : St) : Array Value → State → Outcome → State → Prop := fun _ st oc t => (oc = .returned v ∧ Rep Z S' t.heap) ∧ va_F (zA Z) st t
def wsM (y : MethodName) (cc : ByteArray) (nL : Nat) (rt : Option FieldType) : List Cond := Cond.code y cc nL rt :: lw_good
def MetX (Z : ZT) (l : Launch) (y : MethodName) (cc : ByteArray) (nL : Nat) (rt : Option FieldType) (rm : Room) (av : List Value) (S : St) (v : Option Value) (S' : St) : Prop :=
  Met l y (wsM y cc nL rt) rm (va_Pc (trs Z av) (fun U => Rep Z S U.heap ∧ KS Z U)) (QX Z v S') 0 0 (zA Z)
def CX (Z : ZT) (own : String) (cc : ByteArray) (nL : Nat) (rt : Option FieldType) (p : Program) (s : State) (m : MethodId) (args : Array Value) (meth : Method) (c : Code) : Prop :=
  p.tables.exec = Jvm.exec ∧ c.code = cc ∧ c.maxLocals = nL ∧ s.vm.findClass own = some m.cls ∧ (∀ w ∈ lw_good, w.before args s = true) ∧ KS Z s ∧ meth.sig.returnType = rt ∧ meth.locks = false
def Sim {ρ : Type} (em : ρ → Option Value) (Z : ZT) (R : Room) (own : String) (cc : ByteArray) (nL : Nat) (rt : Option FieldType) (pc : Nat) (lv : List (Nat × Value)) (st : List Value) (S : St) (o : Option (ρ × St)) : Prop :=
  ∀ (p : Program) (l : Launch) (e : Env) (s : State) (m : MethodId) (args : Array Value) (below : List Frame) (meth : Method) (c : Code), CX Z own cc nL rt p s m args meth c → ∀ (r : ρ) (S' : St), o = some (r, S') →
    ∀ (ls : Array Slot) (H : Heap) (locs : List Loc), lv_has ls nL (trl Z lv) → Rep Z S H → va_S (zA Z) s.heap H locs → W p l e R s m args below meth c H locs 0 0 (MQ below (QX Z (em r) S') args s 0 0 (zA Z)) (F0 m pc ls (trs Z st))
abbrev eI (v : Int32) : Option Value := some (.int v)
abbrev eL (v : Int64) : Option Value := some (.long v)
abbrev eD (v : UInt64) : Option Value := some (.double v)
abbrev eF (v : UInt32) : Option Value := some (.float v)
abbrev eV (_ : Unit) : Option Value := none
/-! the words of the pure functions -/
def bd {α β : Type} (x : α) (K : α → β) : β := K x
def gI {β : Type} (ci k c : Nat) (S : St) (K : Int32 → Option β) : Option β := if (kd0 c).1 = ci then K (S.1 c k) else none
def gL {β : Type} (ci k c : Nat) (S : St) (K : Int64 → Option β) : Option β := if (kd0 c).1 = ci then K (S.2 c k) else none
def rK {β : Type} (x : Option Nat) (K : Nat → Option β) : Option β := match x with
  | some a => K a
  | none => none
def gR {β : Type} (ci k c : Nat) (K : Nat → Option β) : Option β := if (kd0 c).1 = ci then rK (R0 c k) K else none
def pI {β : Type} (ci k c : Nat) (v : Int32) (S : St) (K : St → Option β) : Option β := if (kd0 c).1 = ci then K (setI S c k v) else none
def pZ {β : Type} (ci k c : Nat) (v : Int32) (S : St) (K : St → Option β) : Option β := if (kd0 c).1 = ci ∧ (v = 0 ∨ v = 1) then K (setI S c k v) else none
def pL {β : Type} (ci k c : Nat) (v : Int64) (S : St) (K : St → Option β) : Option β := if (kd0 c).1 = ci then K (setL S c k v) else none
def inb (i : Int32) (n : Nat) : Bool := decide (0 ≤ i.toInt ∧ i.toInt < n)
theorem inb_in {i : Int32} {n : Nat} (h : inb i n = true) : vp_in i n := vp_in_iff.mpr (of_decide_eq_true h)
def aI {β : Type} (a : Nat) (i : Int32) (S : St) (K : Int32 → Option β) : Option β := if (kd0 a).1 = 10 ∧ inb i (kd0 a).2 = true then K (S.1 a i.toNatClampNeg) else none
def aJ {β : Type} (a : Nat) (i : Int32) (S : St) (K : Int64 → Option β) : Option β := if (kd0 a).1 = 11 ∧ inb i (kd0 a).2 = true then K (S.2 a i.toNatClampNeg) else none
def aZ {β : Type} (a : Nat) (i : Int32) (S : St) (K : Int32 → Option β) : Option β := if (kd0 a).1 = 12 ∧ inb i (kd0 a).2 = true then K (S.1 a i.toNatClampNeg) else none
def aR {β : Type} (q a : Nat) (i : Int32) (K : Nat → Option β) : Option β := if (kd0 a).1 = q ∧ inb i (kd0 a).2 = true then rK (R0 a i.toNatClampNeg) K else none
def aT {β : Type} (i : Int32) (K : Int32 → Option β) : Option β := if inb i 12 = true then K (daT i.toNatClampNeg) else none
def sI {β : Type} (a : Nat) (i v : Int32) (S : St) (K : St → Option β) : Option β := if (kd0 a).1 = 10 ∧ inb i (kd0 a).2 = true then K (setI S a i.toNatClampNeg v) else none
def sJ {β : Type} (a : Nat) (i : Int32) (v : Int64) (S : St) (K : St → Option β) : Option β := if (kd0 a).1 = 11 ∧ inb i (kd0 a).2 = true then K (setL S a i.toNatClampNeg v) else none
def sZ {β : Type} (a : Nat) (i v : Int32) (S : St) (K : St → Option β) : Option β := if (kd0 a).1 = 12 ∧ inb i (kd0 a).2 = true then K (setI S a i.toNatClampNeg (vp_nar .boolean v)) else none
def gk {β : Type} (c ci : Nat) (x : Option β) : Option β := if (kd0 c).1 = ci then x else none
def cl {α β : Type} (o : Option (α × St)) (K : α → St → Option β) : Option β := match o with
  | some (r, S1) => K r S1
  | none => none
def nz {α β : Type} [DecidableEq α] (z y : α) (x : Option β) : Option β := if y = z then none else x
def dq {β : Type} (x : UInt64) (K : UInt64 → Option β) : Option β := if x &&& 0x7fffffffffffffff ≤ 0x7ff0000000000000 then K x else none
def fq {β : Type} (x : UInt32) (K : UInt32 → Option β) : Option β := if x &&& 0x7fffffff ≤ 0x7f800000 then K x else none
def zr (v : Int32) (S : St) : Option (Int32 × St) := if v = 0 ∨ v = 1 then some (v, S) else none
/-- System.arraycopy of whole rows of n from place 0 -/
def acI {β : Type} (q a b : Nat) (n : Int32) (S : St) (K : St → Option β) : Option β := if (kd0 a).1 = q ∧ (kd0 b).1 = q ∧ 0 ≤ n.toInt ∧ n.toNatClampNeg ≤ (kd0 a).2 ∧ n.toNatClampNeg ≤ (kd0 b).2 then K (rowI S b (fun j => if j < n.toNatClampNeg then S.1 a j else S.1 b j)) else none
def acJ {β : Type} (a b : Nat) (n : Int32) (S : St) (K : St → Option β) : Option β := if (kd0 a).1 = 11 ∧ (kd0 b).1 = 11 ∧ 0 ≤ n.toInt ∧ n.toNatClampNeg ≤ (kd0 a).2 ∧ n.toNatClampNeg ≤ (kd0 b).2 then K (rowL S b (fun j => if j < n.toNatClampNeg then S.2 a j else S.2 b j)) else none
def sw {β : Type} (x : Int32) (d : β) : List (Int32 × β) → β
  | [] => d
  | (k, a) :: l => if x = k then a else sw x d l
section SM
variable {ρ : Type} {em : ρ → Option Value} {Z : ZT} {R : Room} {own : String} {cc : ByteArray} {nL : Nat} {rt : Option FieldType} {lv : List (Nat × Value)} {st : List Value} {S : St} {o : Option (ρ × St)}
theorem sm_none {pc : Nat} : Sim em Z R own cc nL rt pc lv st S (none : Option (ρ × St)) := by
  intro p l e s m args below meth c hC r S' ho
  cases ho
theorem sm_sub {pc : Nat} {lv' : List (Nat × Value)} (ks : List Nat) (h : lv_pick lv ks = lv') (k : Sim em Z R own cc nL rt pc lv' st S o) : Sim em Z R own cc nL rt pc lv st S o := by
  intro p l e s m args below meth c hC r S' ho ls H locs hl hP hS
  refine k p l e s m args below meth c hC r S' ho ls H locs (lv_sub hl ks ?_) hP hS
  rw [← h]
  unfold lv_pick trl
  rw [List.map_filterMap]
  congr 1
  funext i
  simp
theorem sm_bd {α : Type} {pc : Nat} {x : α} {stk : α → List Value} {K : α → Option (ρ × St)} (k : ∀ v, Sim em Z R own cc nL rt pc lv (stk v) S (K v)) : Sim em Z R own cc nL rt pc lv (stk x) S (bd x K) := k x

theorem sm_iconst {n : Int} (v : Int32) {pc : Nat} (hd : decode cc pc = .ok (.iconst n, 1)) (hv : Int32.ofInt n = v) (k : Sim em Z R own cc nL rt (pc + 1) lv (.int v :: st) S o) : Sim em Z R own cc nL rt pc lv (st) S o := by
  intro p l e s m args below meth c hC r S' ho ls H locs hl hP hS
  exact lv_iconst hC.1 hC.2.1 hd hv (k p l e s m args below meth c hC r S' ho ls H locs hl hP hS)
theorem sm_bipush {n : Int} (v : Int32) {pc : Nat} (hd : decode cc pc = .ok (.bipush n, 2)) (hv : (Int8.ofInt n).toInt32 = v) (k : Sim em Z R own cc nL rt (pc + 2) lv (.int v :: st) S o) : Sim em Z R own cc nL rt pc lv (st) S o := by
  intro p l e s m args below meth c hC r S' ho ls H locs hl hP hS
  exact lv_bipush hC.1 hC.2.1 hd hv (k p l e s m args below meth c hC r S' ho ls H locs hl hP hS)
theorem sm_sipush {n : Int} (v : Int32) {pc : Nat} (hd : decode cc pc = .ok (.sipush n, 3)) (hv : (Int16.ofInt n).toInt32 = v) (k : Sim em Z R own cc nL rt (pc + 3) lv (.int v :: st) S o) : Sim em Z R own cc nL rt pc lv (st) S o := by
  intro p l e s m args below meth c hC r S' ho ls H locs hl hP hS
  exact lv_sipush hC.1 hC.2.1 hd hv (k p l e s m args below meth c hC r S' ho ls H locs hl hP hS)
theorem sm_lconst {n : Fin 2} (v : Int64) {pc : Nat} (hd : decode cc pc = .ok (.lconst n, 1)) (hv : Int64.ofNat (n : Nat) = v) (k : Sim em Z R own cc nL rt (pc + 1) lv (.long v :: st) S o) : Sim em Z R own cc nL rt pc lv (st) S o := by
  intro p l e s m args below meth c hC r S' ho ls H locs hl hP hS
  exact lv_lconst hC.1 hC.2.1 hd hv (k p l e s m args below meth c hC r S' ho ls H locs hl hP hS)
theorem sm_dconst0  {pc : Nat} (hd : decode cc pc = .ok (.dconst 0, 1))  (k : Sim em Z R own cc nL rt (pc + 1) lv (.double FP.dconst0 :: st) S o) : Sim em Z R own cc nL rt pc lv (st) S o := by
  intro p l e s m args below meth c hC r S' ho ls H locs hl hP hS
  exact lv_dconst0 hC.1 hC.2.1 hd  (k p l e s m args below meth c hC r S' ho ls H locs hl hP hS)
theorem sm_dconst1  {pc : Nat} (hd : decode cc pc = .ok (.dconst 1, 1))  (k : Sim em Z R own cc nL rt (pc + 1) lv (.double FP.dconst1 :: st) S o) : Sim em Z R own cc nL rt pc lv (st) S o := by
  intro p l e s m args below meth c hC r S' ho ls H locs hl hP hS
  exact lv_dconst1 hC.1 hC.2.1 hd  (k p l e s m args below meth c hC r S' ho ls H locs hl hP hS)
theorem sm_ldc {idx : Nat} (v : Int32) {pc : Nat} (hd : decode cc pc = .ok (.ldc idx, 2)) (hw : Cond.constant own idx v ∈ lw_good) (k : Sim em Z R own cc nL rt (pc + 2) lv (.int v :: st) S o) : Sim em Z R own cc nL rt pc lv st S o := by
  intro p l e s m args below meth c hC r S' ho ls H locs hl hP hS
  exact lv_ldc hC.1 hC.2.1 hC.2.2.2.1 (hC.2.2.2.2.1 _ hw) hd (k p l e s m args below meth c hC r S' ho ls H locs hl hP hS)
theorem sm_ldc2 {idx : Nat} (v : Int64) {pc : Nat} (hd : decode cc pc = .ok (.ldc2_w idx, 3)) (hw : Cond.constantLong own idx v ∈ lw_good) (k : Sim em Z R own cc nL rt (pc + 3) lv (.long v :: st) S o) : Sim em Z R own cc nL rt pc lv st S o := by
  intro p l e s m args below meth c hC r S' ho ls H locs hl hP hS
  exact lv_ldc2 hC.1 hC.2.1 hC.2.2.2.1 (hC.2.2.2.2.1 _ hw) hd (k p l e s m args below meth c hC r S' ho ls H locs hl hP hS)
theorem sm_ldc2d {idx : Nat} (v : UInt64) {pc : Nat} (hd : decode cc pc = .ok (.ldc2_w idx, 3)) (hw : Cond.constantDouble own idx v ∈ lw_good) (k : Sim em Z R own cc nL rt (pc + 3) lv (.double v :: st) S o) : Sim em Z R own cc nL rt pc lv st S o := by
  intro p l e s m args below meth c hC r S' ho ls H locs hl hP hS
  exact lv_ldc2d hC.1 hC.2.1 hC.2.2.2.1 (hC.2.2.2.2.1 _ hw) hd (k p l e s m args below meth c hC r S' ho ls H locs hl hP hS)
theorem sm_iload_n {n : Fin 4} {i : Nat} {x : Int32} {pc : Nat} (hd : decode cc pc = .ok (.iload_n n, 1)) (hi : (n : Nat) = i) (q : Nat) (hq : lv[q]? = some (i, .int x)) (k : Sim em Z R own cc nL rt (pc + 1) lv (.int x :: st) S o) : Sim em Z R own cc nL rt pc lv st S o := by
  intro p l e s m args below meth c hC r S' ho ls H locs hl hP hS
  exact lv_iload_n hC.1 hC.2.1 hd hi (lv_at hl q (trl_at hq)) (k p l e s m args below meth c hC r S' ho ls H locs hl hP hS)
theorem sm_iload {i : Nat} {x : Int32} {pc : Nat} (hd : decode cc pc = .ok (.iload i, 2)) (q : Nat) (hq : lv[q]? = some (i, .int x)) (k : Sim em Z R own cc nL rt (pc + 2) lv (.int x :: st) S o) : Sim em Z R own cc nL rt pc lv st S o := by
  intro p l e s m args below meth c hC r S' ho ls H locs hl hP hS
  exact lv_iload hC.1 hC.2.1 hd (lv_at hl q (trl_at hq)) (k p l e s m args below meth c hC r S' ho ls H locs hl hP hS)
theorem sm_istore_n {n : Fin 4} {i : Nat} {x : Int32} {lv' : List (Nat × Value)} {pc : Nat} (hd : decode cc pc = .ok (.istore_n n, 1)) (hi : (n : Nat) = i) (hn : i < nL) (hlv : (i, Value.int x) :: lv.filter (fun q => !(q.1 == i) && !(q.1 + 1 == i && q.2.category == 2)) = lv') (k : Sim em Z R own cc nL rt (pc + 1) lv' st S o) : Sim em Z R own cc nL rt pc lv (.int x :: st) S o := by
  intro p l e s m args below meth c hC r S' ho ls H locs hl hP hS
  refine lv_istore_n (lv' := trl Z lv') hC.1 hC.2.1 hd hi hl hn (by rw [← hlv, trl_f1]; rfl) (fun ls' hl' => ?_)
  exact k p l e s m args below meth c hC r S' ho ls' H locs hl' hP hS
theorem sm_istore {i : Nat} {x : Int32} {lv' : List (Nat × Value)} {pc : Nat} (hd : decode cc pc = .ok (.istore i, 2))  (hn : i < nL) (hlv : (i, Value.int x) :: lv.filter (fun q => !(q.1 == i) && !(q.1 + 1 == i && q.2.category == 2)) = lv') (k : Sim em Z R own cc nL rt (pc + 2) lv' st S o) : Sim em Z R own cc nL rt pc lv (.int x :: st) S o := by
  intro p l e s m args below meth c hC r S' ho ls H locs hl hP hS
  refine lv_istore (lv' := trl Z lv') hC.1 hC.2.1 hd hl hn (by rw [← hlv, trl_f1]; rfl) (fun ls' hl' => ?_)
  exact k p l e s m args below meth c hC r S' ho ls' H locs hl' hP hS
theorem sm_lload_n {n : Fin 4} {i : Nat} {x : Int64} {pc : Nat} (hd : decode cc pc = .ok (.lload_n n, 1)) (hi : (n : Nat) = i) (q : Nat) (hq : lv[q]? = some (i, .long x)) (k : Sim em Z R own cc nL rt (pc + 1) lv (.long x :: st) S o) : Sim em Z R own cc nL rt pc lv st S o := by
  intro p l e s m args below meth c hC r S' ho ls H locs hl hP hS
  exact lv_lload_n hC.1 hC.2.1 hd hi (lv_at hl q (trl_at hq)) (k p l e s m args below meth c hC r S' ho ls H locs hl hP hS)
theorem sm_lload {i : Nat} {x : Int64} {pc : Nat} (hd : decode cc pc = .ok (.lload i, 2)) (q : Nat) (hq : lv[q]? = some (i, .long x)) (k : Sim em Z R own cc nL rt (pc + 2) lv (.long x :: st) S o) : Sim em Z R own cc nL rt pc lv st S o := by
  intro p l e s m args below meth c hC r S' ho ls H locs hl hP hS
  exact lv_lload hC.1 hC.2.1 hd (lv_at hl q (trl_at hq)) (k p l e s m args below meth c hC r S' ho ls H locs hl hP hS)
theorem sm_lstore_n {n : Fin 4} {i : Nat} {x : Int64} {lv' : List (Nat × Value)} {pc : Nat} (hd : decode cc pc = .ok (.lstore_n n, 1)) (hi : (n : Nat) = i) (hn : i + 1 < nL) (hlv : (i, Value.long x) :: lv.filter (fun q => !(q.1 == i) && (!(q.1 == i + 1) && !(q.1 + 1 == i && q.2.category == 2))) = lv') (k : Sim em Z R own cc nL rt (pc + 1) lv' st S o) : Sim em Z R own cc nL rt pc lv (.long x :: st) S o := by
  intro p l e s m args below meth c hC r S' ho ls H locs hl hP hS
  refine lv_lstore_n (lv' := trl Z lv') hC.1 hC.2.1 hd hi hl hn (by rw [← hlv, trl_f2]; rfl) (fun ls' hl' => ?_)
  exact k p l e s m args below meth c hC r S' ho ls' H locs hl' hP hS
theorem sm_lstore {i : Nat} {x : Int64} {lv' : List (Nat × Value)} {pc : Nat} (hd : decode cc pc = .ok (.lstore i, 2))  (hn : i + 1 < nL) (hlv : (i, Value.long x) :: lv.filter (fun q => !(q.1 == i) && (!(q.1 == i + 1) && !(q.1 + 1 == i && q.2.category == 2))) = lv') (k : Sim em Z R own cc nL rt (pc + 2) lv' st S o) : Sim em Z R own cc nL rt pc lv (.long x :: st) S o := by
  intro p l e s m args below meth c hC r S' ho ls H locs hl hP hS
  refine lv_lstore (lv' := trl Z lv') hC.1 hC.2.1 hd hl hn (by rw [← hlv, trl_f2]; rfl) (fun ls' hl' => ?_)
  exact k p l e s m args below meth c hC r S' ho ls' H locs hl' hP hS
theorem sm_aload_n {n : Fin 4} {i : Nat} {x : Nat} {pc : Nat} (hd : decode cc pc = .ok (.aload_n n, 1)) (hi : (n : Nat) = i) (q : Nat) (hq : lv[q]? = some (i, .ref x)) (k : Sim em Z R own cc nL rt (pc + 1) lv (.ref x :: st) S o) : Sim em Z R own cc nL rt pc lv st S o := by
  intro p l e s m args below meth c hC r S' ho ls H locs hl hP hS
  exact lv_aload_n hC.1 hC.2.1 hd hi (lv_at hl q (trl_at hq)) (k p l e s m args below meth c hC r S' ho ls H locs hl hP hS)
theorem sm_aload {i : Nat} {x : Nat} {pc : Nat} (hd : decode cc pc = .ok (.aload i, 2)) (q : Nat) (hq : lv[q]? = some (i, .ref x)) (k : Sim em Z R own cc nL rt (pc + 2) lv (.ref x :: st) S o) : Sim em Z R own cc nL rt pc lv st S o := by
  intro p l e s m args below meth c hC r S' ho ls H locs hl hP hS
  exact lv_aload hC.1 hC.2.1 hd (lv_at hl q (trl_at hq)) (k p l e s m args below meth c hC r S' ho ls H locs hl hP hS)
theorem sm_astore_n {n : Fin 4} {i : Nat} {x : Nat} {lv' : List (Nat × Value)} {pc : Nat} (hd : decode cc pc = .ok (.astore_n n, 1)) (hi : (n : Nat) = i) (hn : i < nL) (hlv : (i, Value.ref x) :: lv.filter (fun q => !(q.1 == i) && !(q.1 + 1 == i && q.2.category == 2)) = lv') (k : Sim em Z R own cc nL rt (pc + 1) lv' st S o) : Sim em Z R own cc nL rt pc lv (.ref x :: st) S o := by
  intro p l e s m args below meth c hC r S' ho ls H locs hl hP hS
  refine lv_astore_n (lv' := trl Z lv') hC.1 hC.2.1 hd hi hl hn (by rw [← hlv, trl_f1]; rfl) (fun ls' hl' => ?_)
  exact k p l e s m args below meth c hC r S' ho ls' H locs hl' hP hS
theorem sm_astore {i : Nat} {x : Nat} {lv' : List (Nat × Value)} {pc : Nat} (hd : decode cc pc = .ok (.astore i, 2))  (hn : i < nL) (hlv : (i, Value.ref x) :: lv.filter (fun q => !(q.1 == i) && !(q.1 + 1 == i && q.2.category == 2)) = lv') (k : Sim em Z R own cc nL rt (pc + 2) lv' st S o) : Sim em Z R own cc nL rt pc lv (.ref x :: st) S o := by
  intro p l e s m args below meth c hC r S' ho ls H locs hl hP hS
  refine lv_astore (lv' := trl Z lv') hC.1 hC.2.1 hd hl hn (by rw [← hlv, trl_f1]; rfl) (fun ls' hl' => ?_)
  exact k p l e s m args below meth c hC r S' ho ls' H locs hl' hP hS
theorem sm_dload_n {n : Fin 4} {i : Nat} {x : UInt64} {pc : Nat} (hd : decode cc pc = .ok (.dload_n n, 1)) (hi : (n : Nat) = i) (q : Nat) (hq : lv[q]? = some (i, .double x)) (k : Sim em Z R own cc nL rt (pc + 1) lv (.double x :: st) S o) : Sim em Z R own cc nL rt pc lv st S o := by
  intro p l e s m args below meth c hC r S' ho ls H locs hl hP hS
  exact lv_dload_n hC.1 hC.2.1 hd hi (lv_at hl q (trl_at hq)) (k p l e s m args below meth c hC r S' ho ls H locs hl hP hS)
theorem sm_dload {i : Nat} {x : UInt64} {pc : Nat} (hd : decode cc pc = .ok (.dload i, 2)) (q : Nat) (hq : lv[q]? = some (i, .double x)) (k : Sim em Z R own cc nL rt (pc + 2) lv (.double x :: st) S o) : Sim em Z R own cc nL rt pc lv st S o := by
  intro p l e s m args below meth c hC r S' ho ls H locs hl hP hS
  exact lv_dload hC.1 hC.2.1 hd (lv_at hl q (trl_at hq)) (k p l e s m args below meth c hC r S' ho ls H locs hl hP hS)
theorem sm_dstore_n {n : Fin 4} {i : Nat} {x : UInt64} {lv' : List (Nat × Value)} {pc : Nat} (hd : decode cc pc = .ok (.dstore_n n, 1)) (hi : (n : Nat) = i) (hn : i + 1 < nL) (hlv : (i, Value.double x) :: lv.filter (fun q => !(q.1 == i) && (!(q.1 == i + 1) && !(q.1 + 1 == i && q.2.category == 2))) = lv') (k : Sim em Z R own cc nL rt (pc + 1) lv' st S o) : Sim em Z R own cc nL rt pc lv (.double x :: st) S o := by
  intro p l e s m args below meth c hC r S' ho ls H locs hl hP hS
  refine lv_dstore_n (lv' := trl Z lv') hC.1 hC.2.1 hd hi hl hn (by rw [← hlv, trl_f2]; rfl) (fun ls' hl' => ?_)
  exact k p l e s m args below meth c hC r S' ho ls' H locs hl' hP hS
theorem sm_dstore {i : Nat} {x : UInt64} {lv' : List (Nat × Value)} {pc : Nat} (hd : decode cc pc = .ok (.dstore i, 2))  (hn : i + 1 < nL) (hlv : (i, Value.double x) :: lv.filter (fun q => !(q.1 == i) && (!(q.1 == i + 1) && !(q.1 + 1 == i && q.2.category == 2))) = lv') (k : Sim em Z R own cc nL rt (pc + 2) lv' st S o) : Sim em Z R own cc nL rt pc lv (.double x :: st) S o := by
  intro p l e s m args below meth c hC r S' ho ls H locs hl hP hS
  refine lv_dstore (lv' := trl Z lv') hC.1 hC.2.1 hd hl hn (by rw [← hlv, trl_f2]; rfl) (fun ls' hl' => ?_)
  exact k p l e s m args below meth c hC r S' ho ls' H locs hl' hP hS
theorem sm_fload_n {n : Fin 4} {i : Nat} {x : UInt32} {pc : Nat} (hd : decode cc pc = .ok (.fload_n n, 1)) (hi : (n : Nat) = i) (q : Nat) (hq : lv[q]? = some (i, .float x)) (k : Sim em Z R own cc nL rt (pc + 1) lv (.float x :: st) S o) : Sim em Z R own cc nL rt pc lv st S o := by
  intro p l e s m args below meth c hC r S' ho ls H locs hl hP hS
  exact lv_fload_n hC.1 hC.2.1 hd hi (lv_at hl q (trl_at hq)) (k p l e s m args below meth c hC r S' ho ls H locs hl hP hS)
theorem sm_fload {i : Nat} {x : UInt32} {pc : Nat} (hd : decode cc pc = .ok (.fload i, 2)) (q : Nat) (hq : lv[q]? = some (i, .float x)) (k : Sim em Z R own cc nL rt (pc + 2) lv (.float x :: st) S o) : Sim em Z R own cc nL rt pc lv st S o := by
  intro p l e s m args below meth c hC r S' ho ls H locs hl hP hS
  exact lv_fload hC.1 hC.2.1 hd (lv_at hl q (trl_at hq)) (k p l e s m args below meth c hC r S' ho ls H locs hl hP hS)
theorem sm_fstore_n {n : Fin 4} {i : Nat} {x : UInt32} {lv' : List (Nat × Value)} {pc : Nat} (hd : decode cc pc = .ok (.fstore_n n, 1)) (hi : (n : Nat) = i) (hn : i < nL) (hlv : (i, Value.float x) :: lv.filter (fun q => !(q.1 == i) && !(q.1 + 1 == i && q.2.category == 2)) = lv') (k : Sim em Z R own cc nL rt (pc + 1) lv' st S o) : Sim em Z R own cc nL rt pc lv (.float x :: st) S o := by
  intro p l e s m args below meth c hC r S' ho ls H locs hl hP hS
  refine lv_fstore_n (lv' := trl Z lv') hC.1 hC.2.1 hd hi hl hn (by rw [← hlv, trl_f1]; rfl) (fun ls' hl' => ?_)
  exact k p l e s m args below meth c hC r S' ho ls' H locs hl' hP hS
theorem sm_fstore {i : Nat} {x : UInt32} {lv' : List (Nat × Value)} {pc : Nat} (hd : decode cc pc = .ok (.fstore i, 2))  (hn : i < nL) (hlv : (i, Value.float x) :: lv.filter (fun q => !(q.1 == i) && !(q.1 + 1 == i && q.2.category == 2)) = lv') (k : Sim em Z R own cc nL rt (pc + 2) lv' st S o) : Sim em Z R own cc nL rt pc lv (.float x :: st) S o := by
  intro p l e s m args below meth c hC r S' ho ls H locs hl hP hS
  refine lv_fstore (lv' := trl Z lv') hC.1 hC.2.1 hd hl hn (by rw [← hlv, trl_f1]; rfl) (fun ls' hl' => ?_)
  exact k p l e s m args below meth c hC r S' ho ls' H locs hl' hP hS
theorem sm_iinc {i : Nat} {n : Int} {x : Int32} (v : Int32) {lv' : List (Nat × Value)} {pc : Nat} (hd : decode cc pc = .ok (.iinc i n, 3)) (q : Nat) (hq : lv[q]? = some (i, .int x)) (hv : x + Int32.ofInt n = v) (hn : i < nL) (hlv : (i, Value.int v) :: lv.filter (fun q => !(q.1 == i) && !(q.1 + 1 == i && q.2.category == 2)) = lv') (k : Sim em Z R own cc nL rt (pc + 3) lv' st S o) : Sim em Z R own cc nL rt pc lv st S o := by
  intro p l e s m args below meth c hC r S' ho ls H locs hl hP hS
  refine lv_iinc (lv' := trl Z lv') (k := q) hC.1 hC.2.1 hd hl (trl_at hq) hv hn (by rw [← hlv, trl_f1]; rfl) (fun ls' hl' => ?_)
  exact k p l e s m args below meth c hC r S' ho ls' H locs hl' hP hS
theorem sm_iadd {x y : Int32} {pc : Nat} (hd : decode cc pc = .ok (.iadd, 1))  (k : Sim em Z R own cc nL rt (pc + 1) lv (.int (x + y) :: st) S o) : Sim em Z R own cc nL rt pc lv (.int y :: .int x :: st) S o := by
  intro p l e s m args below meth c hC r S' ho ls H locs hl hP hS
  exact lv_iadd hC.1 hC.2.1 hd  (k p l e s m args below meth c hC r S' ho ls H locs hl hP hS)
theorem sm_isub {x y : Int32} {pc : Nat} (hd : decode cc pc = .ok (.isub, 1))  (k : Sim em Z R own cc nL rt (pc + 1) lv (.int (x - y) :: st) S o) : Sim em Z R own cc nL rt pc lv (.int y :: .int x :: st) S o := by
  intro p l e s m args below meth c hC r S' ho ls H locs hl hP hS
  exact lv_isub hC.1 hC.2.1 hd  (k p l e s m args below meth c hC r S' ho ls H locs hl hP hS)
theorem sm_imul {x y : Int32} {pc : Nat} (hd : decode cc pc = .ok (.imul, 1))  (k : Sim em Z R own cc nL rt (pc + 1) lv (.int (x * y) :: st) S o) : Sim em Z R own cc nL rt pc lv (.int y :: .int x :: st) S o := by
  intro p l e s m args below meth c hC r S' ho ls H locs hl hP hS
  exact lv_imul hC.1 hC.2.1 hd  (k p l e s m args below meth c hC r S' ho ls H locs hl hP hS)
theorem sm_iand {x y : Int32} {pc : Nat} (hd : decode cc pc = .ok (.iand, 1))  (k : Sim em Z R own cc nL rt (pc + 1) lv (.int (x &&& y) :: st) S o) : Sim em Z R own cc nL rt pc lv (.int y :: .int x :: st) S o := by
  intro p l e s m args below meth c hC r S' ho ls H locs hl hP hS
  exact lv_iand hC.1 hC.2.1 hd  (k p l e s m args below meth c hC r S' ho ls H locs hl hP hS)
theorem sm_ior {x y : Int32} {pc : Nat} (hd : decode cc pc = .ok (.ior, 1))  (k : Sim em Z R own cc nL rt (pc + 1) lv (.int (x ||| y) :: st) S o) : Sim em Z R own cc nL rt pc lv (.int y :: .int x :: st) S o := by
  intro p l e s m args below meth c hC r S' ho ls H locs hl hP hS
  exact lv_ior hC.1 hC.2.1 hd  (k p l e s m args below meth c hC r S' ho ls H locs hl hP hS)
theorem sm_ixor {x y : Int32} {pc : Nat} (hd : decode cc pc = .ok (.ixor, 1))  (k : Sim em Z R own cc nL rt (pc + 1) lv (.int (x ^^^ y) :: st) S o) : Sim em Z R own cc nL rt pc lv (.int y :: .int x :: st) S o := by
  intro p l e s m args below meth c hC r S' ho ls H locs hl hP hS
  exact lv_ixor hC.1 hC.2.1 hd  (k p l e s m args below meth c hC r S' ho ls H locs hl hP hS)
theorem sm_ishl {x y : Int32} {pc : Nat} (hd : decode cc pc = .ok (.ishl, 1))  (k : Sim em Z R own cc nL rt (pc + 1) lv (.int (x <<< (y &&& 31)) :: st) S o) : Sim em Z R own cc nL rt pc lv (.int y :: .int x :: st) S o := by
  intro p l e s m args below meth c hC r S' ho ls H locs hl hP hS
  exact lv_ishl hC.1 hC.2.1 hd  (k p l e s m args below meth c hC r S' ho ls H locs hl hP hS)
theorem sm_ladd {x y : Int64} {pc : Nat} (hd : decode cc pc = .ok (.ladd, 1))  (k : Sim em Z R own cc nL rt (pc + 1) lv (.long (x + y) :: st) S o) : Sim em Z R own cc nL rt pc lv (.long y :: .long x :: st) S o := by
  intro p l e s m args below meth c hC r S' ho ls H locs hl hP hS
  exact lv_ladd hC.1 hC.2.1 hd  (k p l e s m args below meth c hC r S' ho ls H locs hl hP hS)
theorem sm_lsub {x y : Int64} {pc : Nat} (hd : decode cc pc = .ok (.lsub, 1))  (k : Sim em Z R own cc nL rt (pc + 1) lv (.long (x - y) :: st) S o) : Sim em Z R own cc nL rt pc lv (.long y :: .long x :: st) S o := by
  intro p l e s m args below meth c hC r S' ho ls H locs hl hP hS
  exact lv_lsub hC.1 hC.2.1 hd  (k p l e s m args below meth c hC r S' ho ls H locs hl hP hS)
theorem sm_lmul {x y : Int64} {pc : Nat} (hd : decode cc pc = .ok (.lmul, 1))  (k : Sim em Z R own cc nL rt (pc + 1) lv (.long (x * y) :: st) S o) : Sim em Z R own cc nL rt pc lv (.long y :: .long x :: st) S o := by
  intro p l e s m args below meth c hC r S' ho ls H locs hl hP hS
  exact lv_lmul hC.1 hC.2.1 hd  (k p l e s m args below meth c hC r S' ho ls H locs hl hP hS)
theorem sm_land {x y : Int64} {pc : Nat} (hd : decode cc pc = .ok (.land, 1))  (k : Sim em Z R own cc nL rt (pc + 1) lv (.long (x &&& y) :: st) S o) : Sim em Z R own cc nL rt pc lv (.long y :: .long x :: st) S o := by
  intro p l e s m args below meth c hC r S' ho ls H locs hl hP hS
  exact lv_land hC.1 hC.2.1 hd  (k p l e s m args below meth c hC r S' ho ls H locs hl hP hS)
theorem sm_lor {x y : Int64} {pc : Nat} (hd : decode cc pc = .ok (.lor, 1))  (k : Sim em Z R own cc nL rt (pc + 1) lv (.long (x ||| y) :: st) S o) : Sim em Z R own cc nL rt pc lv (.long y :: .long x :: st) S o := by
  intro p l e s m args below meth c hC r S' ho ls H locs hl hP hS
  exact lv_lor hC.1 hC.2.1 hd  (k p l e s m args below meth c hC r S' ho ls H locs hl hP hS)
theorem sm_lshl {x : Int64} {y : Int32} {pc : Nat} (hd : decode cc pc = .ok (.lshl, 1))  (k : Sim em Z R own cc nL rt (pc + 1) lv (.long (x <<< (y.toInt64 &&& 63)) :: st) S o) : Sim em Z R own cc nL rt pc lv (.int y :: .long x :: st) S o := by
  intro p l e s m args below meth c hC r S' ho ls H locs hl hP hS
  exact lv_lshl hC.1 hC.2.1 hd rfl (k p l e s m args below meth c hC r S' ho ls H locs hl hP hS)
theorem sm_lushr {x : Int64} {y : Int32} {pc : Nat} (hd : decode cc pc = .ok (.lushr, 1))  (k : Sim em Z R own cc nL rt (pc + 1) lv (.long (x.toUInt64 >>> (y.toInt64.toUInt64 &&& Int64.toUInt64 63)).toInt64 :: st) S o) : Sim em Z R own cc nL rt pc lv (.int y :: .long x :: st) S o := by
  intro p l e s m args below meth c hC r S' ho ls H locs hl hP hS
  exact lv_lushr hC.1 hC.2.1 hd rfl (k p l e s m args below meth c hC r S' ho ls H locs hl hP hS)
theorem sm_i2l {x : Int32} {pc : Nat} (hd : decode cc pc = .ok (.i2l, 1))  (k : Sim em Z R own cc nL rt (pc + 1) lv (.long x.toInt64 :: st) S o) : Sim em Z R own cc nL rt pc lv (.int x :: st) S o := by
  intro p l e s m args below meth c hC r S' ho ls H locs hl hP hS
  exact lv_i2l hC.1 hC.2.1 hd rfl (k p l e s m args below meth c hC r S' ho ls H locs hl hP hS)
theorem sm_l2i {x : Int64} {pc : Nat} (hd : decode cc pc = .ok (.l2i, 1))  (k : Sim em Z R own cc nL rt (pc + 1) lv (.int x.toInt32 :: st) S o) : Sim em Z R own cc nL rt pc lv (.long x :: st) S o := by
  intro p l e s m args below meth c hC r S' ho ls H locs hl hP hS
  exact lv_l2i hC.1 hC.2.1 hd rfl (k p l e s m args below meth c hC r S' ho ls H locs hl hP hS)
theorem sm_l2d {x : Int64} {pc : Nat} (hd : decode cc pc = .ok (.l2d, 1))  (k : Sim em Z R own cc nL rt (pc + 1) lv (.double (FP.l2d x) :: st) S o) : Sim em Z R own cc nL rt pc lv (.long x :: st) S o := by
  intro p l e s m args below meth c hC r S' ho ls H locs hl hP hS
  exact lv_l2d hC.1 hC.2.1 hd  (k p l e s m args below meth c hC r S' ho ls H locs hl hP hS)
theorem sm_d2l {x : UInt64} {pc : Nat} (hd : decode cc pc = .ok (.d2l, 1))  (k : Sim em Z R own cc nL rt (pc + 1) lv (.long (FP.d2l x) :: st) S o) : Sim em Z R own cc nL rt pc lv (.double x :: st) S o := by
  intro p l e s m args below meth c hC r S' ho ls H locs hl hP hS
  exact lv_d2l hC.1 hC.2.1 hd  (k p l e s m args below meth c hC r S' ho ls H locs hl hP hS)
theorem sm_idiv {x y : Int32} {pc : Nat} (hd : decode cc pc = .ok (.idiv, 1)) (k : Sim em Z R own cc nL rt (pc + 1) lv (.int (x / y) :: st) S o) : Sim em Z R own cc nL rt pc lv (.int y :: .int x :: st) S (nz 0 y o) := by
  intro p l e s m args below meth c hC r S' ho ls H locs hl hP hS
  unfold nz at ho
  split at ho
  · cases ho
  · next hne => exact lv_idiv hC.1 hC.2.1 hd hne (k p l e s m args below meth c hC r S' ho ls H locs hl hP hS)
theorem sm_idivc {x y : Int32} {pc : Nat} (hd : decode cc pc = .ok (.idiv, 1)) (hne : ¬ y = 0) (k : Sim em Z R own cc nL rt (pc + 1) lv (.int (x / y) :: st) S o) : Sim em Z R own cc nL rt pc lv (.int y :: .int x :: st) S o := by
  intro p l e s m args below meth c hC r S' ho ls H locs hl hP hS
  exact lv_idiv hC.1 hC.2.1 hd hne (k p l e s m args below meth c hC r S' ho ls H locs hl hP hS)
theorem sm_irem {x y : Int32} {pc : Nat} (hd : decode cc pc = .ok (.irem, 1)) (k : Sim em Z R own cc nL rt (pc + 1) lv (.int (x - x / y * y) :: st) S o) : Sim em Z R own cc nL rt pc lv (.int y :: .int x :: st) S (nz 0 y o) := by
  intro p l e s m args below meth c hC r S' ho ls H locs hl hP hS
  unfold nz at ho
  split at ho
  · cases ho
  · next hne => exact lv_irem hC.1 hC.2.1 hd hne (k p l e s m args below meth c hC r S' ho ls H locs hl hP hS)
theorem sm_iremc {x y : Int32} {pc : Nat} (hd : decode cc pc = .ok (.irem, 1)) (hne : ¬ y = 0) (k : Sim em Z R own cc nL rt (pc + 1) lv (.int (x - x / y * y) :: st) S o) : Sim em Z R own cc nL rt pc lv (.int y :: .int x :: st) S o := by
  intro p l e s m args below meth c hC r S' ho ls H locs hl hP hS
  exact lv_irem hC.1 hC.2.1 hd hne (k p l e s m args below meth c hC r S' ho ls H locs hl hP hS)
theorem sm_ldiv {x y : Int64} {pc : Nat} (hd : decode cc pc = .ok (.ldiv, 1)) (k : Sim em Z R own cc nL rt (pc + 1) lv (.long (x / y) :: st) S o) : Sim em Z R own cc nL rt pc lv (.long y :: .long x :: st) S (nz 0 y o) := by
  intro p l e s m args below meth c hC r S' ho ls H locs hl hP hS
  unfold nz at ho
  split at ho
  · cases ho
  · next hne => exact lv_ldiv hC.1 hC.2.1 hd hne (k p l e s m args below meth c hC r S' ho ls H locs hl hP hS)
theorem sm_ldivc {x y : Int64} {pc : Nat} (hd : decode cc pc = .ok (.ldiv, 1)) (hne : ¬ y = 0) (k : Sim em Z R own cc nL rt (pc + 1) lv (.long (x / y) :: st) S o) : Sim em Z R own cc nL rt pc lv (.long y :: .long x :: st) S o := by
  intro p l e s m args below meth c hC r S' ho ls H locs hl hP hS
  exact lv_ldiv hC.1 hC.2.1 hd hne (k p l e s m args below meth c hC r S' ho ls H locs hl hP hS)
theorem sm_lrem {x y : Int64} {pc : Nat} (hd : decode cc pc = .ok (.lrem, 1)) (k : Sim em Z R own cc nL rt (pc + 1) lv (.long (x - x / y * y) :: st) S o) : Sim em Z R own cc nL rt pc lv (.long y :: .long x :: st) S (nz 0 y o) := by
  intro p l e s m args below meth c hC r S' ho ls H locs hl hP hS
  unfold nz at ho
  split at ho
  · cases ho
  · next hne => exact lv_lrem hC.1 hC.2.1 hd hne (k p l e s m args below meth c hC r S' ho ls H locs hl hP hS)
theorem sm_lremc {x y : Int64} {pc : Nat} (hd : decode cc pc = .ok (.lrem, 1)) (hne : ¬ y = 0) (k : Sim em Z R own cc nL rt (pc + 1) lv (.long (x - x / y * y) :: st) S o) : Sim em Z R own cc nL rt pc lv (.long y :: .long x :: st) S o := by
  intro p l e s m args below meth c hC r S' ho ls H locs hl hP hS
  exact lv_lrem hC.1 hC.2.1 hd hne (k p l e s m args below meth c hC r S' ho ls H locs hl hP hS)
theorem sm_dadd {x y : UInt64} {K : UInt64 → Option (ρ × St)} {pc : Nat} (hd : decode cc pc = .ok (.dadd, 1)) (k : ∀ v, Sim em Z R own cc nL rt (pc + 1) lv (.double v :: st) S (K v)) : Sim em Z R own cc nL rt pc lv (.double y :: .double x :: st) S (dq (FP.dadd x y) K) := by
  intro p l e s m args below meth c hC r S' ho ls H locs hl hP hS
  unfold dq at ho
  split at ho
  · next hne => exact lv_dadd hC.1 hC.2.1 hd hne (k _ p l e s m args below meth c hC r S' ho ls H locs hl hP hS)
  · cases ho
theorem sm_dsub {x y : UInt64} {K : UInt64 → Option (ρ × St)} {pc : Nat} (hd : decode cc pc = .ok (.dsub, 1)) (k : ∀ v, Sim em Z R own cc nL rt (pc + 1) lv (.double v :: st) S (K v)) : Sim em Z R own cc nL rt pc lv (.double y :: .double x :: st) S (dq (FP.dsub x y) K) := by
  intro p l e s m args below meth c hC r S' ho ls H locs hl hP hS
  unfold dq at ho
  split at ho
  · next hne => exact lv_dsub hC.1 hC.2.1 hd hne (k _ p l e s m args below meth c hC r S' ho ls H locs hl hP hS)
  · cases ho
theorem sm_dmul {x y : UInt64} {K : UInt64 → Option (ρ × St)} {pc : Nat} (hd : decode cc pc = .ok (.dmul, 1)) (k : ∀ v, Sim em Z R own cc nL rt (pc + 1) lv (.double v :: st) S (K v)) : Sim em Z R own cc nL rt pc lv (.double y :: .double x :: st) S (dq (FP.dmul x y) K) := by
  intro p l e s m args below meth c hC r S' ho ls H locs hl hP hS
  unfold dq at ho
  split at ho
  · next hne => exact lv_dmul hC.1 hC.2.1 hd hne (k _ p l e s m args below meth c hC r S' ho ls H locs hl hP hS)
  · cases ho
theorem sm_ddiv {x y : UInt64} {K : UInt64 → Option (ρ × St)} {pc : Nat} (hd : decode cc pc = .ok (.ddiv, 1)) (k : ∀ v, Sim em Z R own cc nL rt (pc + 1) lv (.double v :: st) S (K v)) : Sim em Z R own cc nL rt pc lv (.double y :: .double x :: st) S (dq (FP.ddiv x y) K) := by
  intro p l e s m args below meth c hC r S' ho ls H locs hl hP hS
  unfold dq at ho
  split at ho
  · next hne => exact lv_ddiv hC.1 hC.2.1 hd hne (k _ p l e s m args below meth c hC r S' ho ls H locs hl hP hS)
  · cases ho
theorem sm_d2f {x : UInt64} {K : UInt32 → Option (ρ × St)} {pc : Nat} (hd : decode cc pc = .ok (.d2f, 1)) (k : ∀ v, Sim em Z R own cc nL rt (pc + 1) lv (.float v :: st) S (K v)) : Sim em Z R own cc nL rt pc lv (.double x :: st) S (fq (FP.d2f x) K) := by
  intro p l e s m args below meth c hC r S' ho ls H locs hl hP hS
  unfold fq at ho
  split at ho
  · next hne => exact lv_d2f hC.1 hC.2.1 hd hne (k _ p l e s m args below meth c hC r S' ho ls H locs hl hP hS)
  · cases ho
theorem sm_f2d {x : UInt32} {K : UInt64 → Option (ρ × St)} {pc : Nat} (hd : decode cc pc = .ok (.f2d, 1)) (k : ∀ v, Sim em Z R own cc nL rt (pc + 1) lv (.double v :: st) S (K v)) : Sim em Z R own cc nL rt pc lv (.float x :: st) S (dq (FP.f2d x) K) := by
  intro p l e s m args below meth c hC r S' ho ls H locs hl hP hS
  unfold dq at ho
  split at ho
  · next hne => exact lv_f2d hC.1 hC.2.1 hd hne (k _ p l e s m args below meth c hC r S' ho ls H locs hl hP hS)
  · cases ho
theorem sm_dup {va : Value} {pc : Nat} (hd : decode cc pc = .ok (.dup, 1)) (ha : va.category = 1) (k : Sim em Z R own cc nL rt (pc + 1) lv (va :: va :: st) S o) : Sim em Z R own cc nL rt pc lv (va :: st) S o := by
  intro p l e s m args below meth c hC r S' ho ls H locs hl hP hS
  exact lv_dup hC.1 hC.2.1 hd (by rw [tr_cat]; exact ha) (k p l e s m args below meth c hC r S' ho ls H locs hl hP hS)
theorem sm_pop {va : Value} {pc : Nat} (hd : decode cc pc = .ok (.pop, 1)) (ha : va.category = 1) (k : Sim em Z R own cc nL rt (pc + 1) lv st S o) : Sim em Z R own cc nL rt pc lv (va :: st) S o := by
  intro p l e s m args below meth c hC r S' ho ls H locs hl hP hS
  exact lv_pop hC.1 hC.2.1 hd (by rw [tr_cat]; exact ha) (k p l e s m args below meth c hC r S' ho ls H locs hl hP hS)
theorem sm_pop2_2 {va : Value} {pc : Nat} (hd : decode cc pc = .ok (.pop2, 1)) (ha : va.category = 2) (k : Sim em Z R own cc nL rt (pc + 1) lv st S o) : Sim em Z R own cc nL rt pc lv (va :: st) S o := by
  intro p l e s m args below meth c hC r S' ho ls H locs hl hP hS
  exact lv_pop2_2 hC.1 hC.2.1 hd (by rw [tr_cat]; exact ha) (k p l e s m args below meth c hC r S' ho ls H locs hl hP hS)
theorem sm_dup2_2 {va : Value} {pc : Nat} (hd : decode cc pc = .ok (.dup2, 1)) (ha : va.category = 2) (k : Sim em Z R own cc nL rt (pc + 1) lv (va :: va :: st) S o) : Sim em Z R own cc nL rt pc lv (va :: st) S o := by
  intro p l e s m args below meth c hC r S' ho ls H locs hl hP hS
  exact lv_dup2_2 hC.1 hC.2.1 hd (by rw [tr_cat]; exact ha) (k p l e s m args below meth c hC r S' ho ls H locs hl hP hS)
theorem sm_dup2_11 {va vb : Value} {pc : Nat} (hd : decode cc pc = .ok (.dup2, 1)) (ha : va.category = 1) (hb : vb.category = 1) (k : Sim em Z R own cc nL rt (pc + 1) lv (va :: vb :: va :: vb :: st) S o) : Sim em Z R own cc nL rt pc lv (va :: vb :: st) S o := by
  intro p l e s m args below meth c hC r S' ho ls H locs hl hP hS
  exact lv_dup2_11 hC.1 hC.2.1 hd (by rw [tr_cat]; exact ha) (by rw [tr_cat]; exact hb) (k p l e s m args below meth c hC r S' ho ls H locs hl hP hS)
theorem sm_dup_x1 {va vb : Value} {pc : Nat} (hd : decode cc pc = .ok (.dup_x1, 1)) (ha : va.category = 1) (hb : vb.category = 1) (k : Sim em Z R own cc nL rt (pc + 1) lv (va :: vb :: va :: st) S o) : Sim em Z R own cc nL rt pc lv (va :: vb :: st) S o := by
  intro p l e s m args below meth c hC r S' ho ls H locs hl hP hS
  exact lv_dup_x1 hC.1 hC.2.1 hd (by rw [tr_cat]; exact ha) (by rw [tr_cat]; exact hb) (k p l e s m args below meth c hC r S' ho ls H locs hl hP hS)
theorem sm_dup2_x2 {va vb vd : Value} {pc : Nat} (hd : decode cc pc = .ok (.dup2_x2, 1)) (ha : va.category = 2) (hb : vb.category = 1) (hc : vd.category = 1) (k : Sim em Z R own cc nL rt (pc + 1) lv (va :: vb :: vd :: va :: st) S o) : Sim em Z R own cc nL rt pc lv (va :: vb :: vd :: st) S o := by
  intro p l e s m args below meth c hC r S' ho ls H locs hl hP hS
  exact lv_dup2_x2_2 hC.1 hC.2.1 hd (by rw [tr_cat]; exact ha) (by rw [tr_cat]; exact hb) (by rw [tr_cat]; exact hc) (k p l e s m args below meth c hC r S' ho ls H locs hl hP hS)
theorem sm_goto {off : Int} (tgt : Nat) {pc : Nat} (hd : decode cc pc = .ok (.goto off, 3)) (ht : (pc : Int) + off = (tgt : Int)) (k : Sim em Z R own cc nL rt tgt lv st S o) : Sim em Z R own cc nL rt pc lv st S o := by
  intro p l e s m args below meth c hC r S' ho ls H locs hl hP hS
  exact lv_goto hC.1 hC.2.1 hd ht (k p l e s m args below meth c hC r S' ho ls H locs hl hP hS)
theorem sm_if_eq {x : Int32} {A B : Option (ρ × St)} {off : Int} (tgt : Nat) {pc : Nat} (hd : decode cc pc = .ok (.ifCond .eq off, 3)) (ht : ((pc + 0 : Nat) : Int) + off = (tgt : Int)) (kt : Sim em Z R own cc nL rt tgt lv st S A) (kf : Sim em Z R own cc nL rt (pc + 3) lv st S B) : Sim em Z R own cc nL rt pc lv (.int x :: st) S (if x = 0 then A else B) := by
  intro p l e s m args below meth c hC r S' ho ls H locs hl hP hS
  exact lv_if_eq hC.1 hC.2.1 hd ht (fun hc => kt p l e s m args below meth c hC r S' (by rw [← ho, if_pos hc]) ls H locs hl hP hS) (fun hc => kf p l e s m args below meth c hC r S' (by rw [← ho, if_neg hc]) ls H locs hl hP hS)
theorem sm_icmp_eq {x y : Int32} {A B : Option (ρ × St)} {off : Int} (tgt : Nat) {pc : Nat} (hd : decode cc pc = .ok (.if_icmp .eq off, 3)) (ht : ((pc + 0 : Nat) : Int) + off = (tgt : Int)) (kt : Sim em Z R own cc nL rt tgt lv st S A) (kf : Sim em Z R own cc nL rt (pc + 3) lv st S B) : Sim em Z R own cc nL rt pc lv (.int y :: .int x :: st) S (if x = y then A else B) := by
  intro p l e s m args below meth c hC r S' ho ls H locs hl hP hS
  exact lv_icmp_eq hC.1 hC.2.1 hd ht (fun hc => kt p l e s m args below meth c hC r S' (by rw [← ho, if_pos hc]) ls H locs hl hP hS) (fun hc => kf p l e s m args below meth c hC r S' (by rw [← ho, if_neg hc]) ls H locs hl hP hS)
theorem sm_if_ne {x : Int32} {A B : Option (ρ × St)} {off : Int} (tgt : Nat) {pc : Nat} (hd : decode cc pc = .ok (.ifCond .ne off, 3)) (ht : ((pc + 0 : Nat) : Int) + off = (tgt : Int)) (kt : Sim em Z R own cc nL rt tgt lv st S A) (kf : Sim em Z R own cc nL rt (pc + 3) lv st S B) : Sim em Z R own cc nL rt pc lv (.int x :: st) S (if ¬ x = 0 then A else B) := by
  intro p l e s m args below meth c hC r S' ho ls H locs hl hP hS
  exact lv_if_ne hC.1 hC.2.1 hd ht (fun hc => kt p l e s m args below meth c hC r S' (by rw [← ho, if_pos hc]) ls H locs hl hP hS) (fun hc => kf p l e s m args below meth c hC r S' (by rw [← ho, if_neg (fun h => h hc)]) ls H locs hl hP hS)
theorem sm_icmp_ne {x y : Int32} {A B : Option (ρ × St)} {off : Int} (tgt : Nat) {pc : Nat} (hd : decode cc pc = .ok (.if_icmp .ne off, 3)) (ht : ((pc + 0 : Nat) : Int) + off = (tgt : Int)) (kt : Sim em Z R own cc nL rt tgt lv st S A) (kf : Sim em Z R own cc nL rt (pc + 3) lv st S B) : Sim em Z R own cc nL rt pc lv (.int y :: .int x :: st) S (if ¬ x = y then A else B) := by
  intro p l e s m args below meth c hC r S' ho ls H locs hl hP hS
  exact lv_icmp_ne hC.1 hC.2.1 hd ht (fun hc => kt p l e s m args below meth c hC r S' (by rw [← ho, if_pos hc]) ls H locs hl hP hS) (fun hc => kf p l e s m args below meth c hC r S' (by rw [← ho, if_neg (fun h => h hc)]) ls H locs hl hP hS)
theorem sm_if_lt {x : Int32} {A B : Option (ρ × St)} {off : Int} (tgt : Nat) {pc : Nat} (hd : decode cc pc = .ok (.ifCond .lt off, 3)) (ht : ((pc + 0 : Nat) : Int) + off = (tgt : Int)) (kt : Sim em Z R own cc nL rt tgt lv st S A) (kf : Sim em Z R own cc nL rt (pc + 3) lv st S B) : Sim em Z R own cc nL rt pc lv (.int x :: st) S (if x < 0 then A else B) := by
  intro p l e s m args below meth c hC r S' ho ls H locs hl hP hS
  exact lv_if_lt hC.1 hC.2.1 hd ht (fun hc => kt p l e s m args below meth c hC r S' (by rw [← ho, if_pos hc]) ls H locs hl hP hS) (fun hc => kf p l e s m args below meth c hC r S' (by rw [← ho, if_neg hc]) ls H locs hl hP hS)
theorem sm_icmp_lt {x y : Int32} {A B : Option (ρ × St)} {off : Int} (tgt : Nat) {pc : Nat} (hd : decode cc pc = .ok (.if_icmp .lt off, 3)) (ht : ((pc + 0 : Nat) : Int) + off = (tgt : Int)) (kt : Sim em Z R own cc nL rt tgt lv st S A) (kf : Sim em Z R own cc nL rt (pc + 3) lv st S B) : Sim em Z R own cc nL rt pc lv (.int y :: .int x :: st) S (if x < y then A else B) := by
  intro p l e s m args below meth c hC r S' ho ls H locs hl hP hS
  exact lv_icmp_lt hC.1 hC.2.1 hd ht (fun hc => kt p l e s m args below meth c hC r S' (by rw [← ho, if_pos hc]) ls H locs hl hP hS) (fun hc => kf p l e s m args below meth c hC r S' (by rw [← ho, if_neg hc]) ls H locs hl hP hS)
theorem sm_if_ge {x : Int32} {A B : Option (ρ × St)} {off : Int} (tgt : Nat) {pc : Nat} (hd : decode cc pc = .ok (.ifCond .ge off, 3)) (ht : ((pc + 0 : Nat) : Int) + off = (tgt : Int)) (kt : Sim em Z R own cc nL rt tgt lv st S A) (kf : Sim em Z R own cc nL rt (pc + 3) lv st S B) : Sim em Z R own cc nL rt pc lv (.int x :: st) S (if 0 ≤ x then A else B) := by
  intro p l e s m args below meth c hC r S' ho ls H locs hl hP hS
  exact lv_if_ge hC.1 hC.2.1 hd ht (fun hc => kt p l e s m args below meth c hC r S' (by rw [← ho, if_pos hc]) ls H locs hl hP hS) (fun hc => kf p l e s m args below meth c hC r S' (by rw [← ho, if_neg hc]) ls H locs hl hP hS)
theorem sm_icmp_ge {x y : Int32} {A B : Option (ρ × St)} {off : Int} (tgt : Nat) {pc : Nat} (hd : decode cc pc = .ok (.if_icmp .ge off, 3)) (ht : ((pc + 0 : Nat) : Int) + off = (tgt : Int)) (kt : Sim em Z R own cc nL rt tgt lv st S A) (kf : Sim em Z R own cc nL rt (pc + 3) lv st S B) : Sim em Z R own cc nL rt pc lv (.int y :: .int x :: st) S (if y ≤ x then A else B) := by
  intro p l e s m args below meth c hC r S' ho ls H locs hl hP hS
  exact lv_icmp_ge hC.1 hC.2.1 hd ht (fun hc => kt p l e s m args below meth c hC r S' (by rw [← ho, if_pos hc]) ls H locs hl hP hS) (fun hc => kf p l e s m args below meth c hC r S' (by rw [← ho, if_neg hc]) ls H locs hl hP hS)
theorem sm_if_gt {x : Int32} {A B : Option (ρ × St)} {off : Int} (tgt : Nat) {pc : Nat} (hd : decode cc pc = .ok (.ifCond .gt off, 3)) (ht : ((pc + 0 : Nat) : Int) + off = (tgt : Int)) (kt : Sim em Z R own cc nL rt tgt lv st S A) (kf : Sim em Z R own cc nL rt (pc + 3) lv st S B) : Sim em Z R own cc nL rt pc lv (.int x :: st) S (if 0 < x then A else B) := by
  intro p l e s m args below meth c hC r S' ho ls H locs hl hP hS
  exact lv_if_gt hC.1 hC.2.1 hd ht (fun hc => kt p l e s m args below meth c hC r S' (by rw [← ho, if_pos hc]) ls H locs hl hP hS) (fun hc => kf p l e s m args below meth c hC r S' (by rw [← ho, if_neg hc]) ls H locs hl hP hS)
theorem sm_icmp_gt {x y : Int32} {A B : Option (ρ × St)} {off : Int} (tgt : Nat) {pc : Nat} (hd : decode cc pc = .ok (.if_icmp .gt off, 3)) (ht : ((pc + 0 : Nat) : Int) + off = (tgt : Int)) (kt : Sim em Z R own cc nL rt tgt lv st S A) (kf : Sim em Z R own cc nL rt (pc + 3) lv st S B) : Sim em Z R own cc nL rt pc lv (.int y :: .int x :: st) S (if y < x then A else B) := by
  intro p l e s m args below meth c hC r S' ho ls H locs hl hP hS
  exact lv_icmp_gt hC.1 hC.2.1 hd ht (fun hc => kt p l e s m args below meth c hC r S' (by rw [← ho, if_pos hc]) ls H locs hl hP hS) (fun hc => kf p l e s m args below meth c hC r S' (by rw [← ho, if_neg hc]) ls H locs hl hP hS)
theorem sm_if_le {x : Int32} {A B : Option (ρ × St)} {off : Int} (tgt : Nat) {pc : Nat} (hd : decode cc pc = .ok (.ifCond .le off, 3)) (ht : ((pc + 0 : Nat) : Int) + off = (tgt : Int)) (kt : Sim em Z R own cc nL rt tgt lv st S A) (kf : Sim em Z R own cc nL rt (pc + 3) lv st S B) : Sim em Z R own cc nL rt pc lv (.int x :: st) S (if x ≤ 0 then A else B) := by
  intro p l e s m args below meth c hC r S' ho ls H locs hl hP hS
  exact lv_if_le hC.1 hC.2.1 hd ht (fun hc => kt p l e s m args below meth c hC r S' (by rw [← ho, if_pos hc]) ls H locs hl hP hS) (fun hc => kf p l e s m args below meth c hC r S' (by rw [← ho, if_neg hc]) ls H locs hl hP hS)
theorem sm_icmp_le {x y : Int32} {A B : Option (ρ × St)} {off : Int} (tgt : Nat) {pc : Nat} (hd : decode cc pc = .ok (.if_icmp .le off, 3)) (ht : ((pc + 0 : Nat) : Int) + off = (tgt : Int)) (kt : Sim em Z R own cc nL rt tgt lv st S A) (kf : Sim em Z R own cc nL rt (pc + 3) lv st S B) : Sim em Z R own cc nL rt pc lv (.int y :: .int x :: st) S (if x ≤ y then A else B) := by
  intro p l e s m args below meth c hC r S' ho ls H locs hl hP hS
  exact lv_icmp_le hC.1 hC.2.1 hd ht (fun hc => kt p l e s m args below meth c hC r S' (by rw [← ho, if_pos hc]) ls H locs hl hP hS) (fun hc => kf p l e s m args below meth c hC r S' (by rw [← ho, if_neg hc]) ls H locs hl hP hS)
theorem sm_lcmp_eq {x y : Int64} {A B : Option (ρ × St)} {off : Int} (tgt : Nat) {pc : Nat} (hd : decode cc pc = .ok (.lcmp, 1)) (hd2 : decode cc (pc + 1) = .ok (.ifCond .eq off, 3)) (ht : ((pc + 1 : Nat) : Int) + off = (tgt : Int)) (kt : Sim em Z R own cc nL rt tgt lv st S A) (kf : Sim em Z R own cc nL rt (pc + 4) lv st S B) : Sim em Z R own cc nL rt pc lv (.long y :: .long x :: st) S (if x = y then A else B) := by
  intro p l e s m args below meth c hC r S' ho ls H locs hl hP hS
  refine W.lcmp hC.1 hC.2.1 hd ?_
  exact lv_if_eq hC.1 hC.2.1 hd2 ht (fun hc => kt p l e s m args below meth c hC r S' (by rw [← ho, if_pos ((lg_cmp_eq x y).mp hc)]) ls H locs hl hP hS) (fun hc => kf p l e s m args below meth c hC r S' (by rw [← ho, if_neg (fun h => hc ((lg_cmp_eq x y).mpr h))]) ls H locs hl hP hS)
theorem sm_lcmp_ne {x y : Int64} {A B : Option (ρ × St)} {off : Int} (tgt : Nat) {pc : Nat} (hd : decode cc pc = .ok (.lcmp, 1)) (hd2 : decode cc (pc + 1) = .ok (.ifCond .ne off, 3)) (ht : ((pc + 1 : Nat) : Int) + off = (tgt : Int)) (kt : Sim em Z R own cc nL rt tgt lv st S A) (kf : Sim em Z R own cc nL rt (pc + 4) lv st S B) : Sim em Z R own cc nL rt pc lv (.long y :: .long x :: st) S (if ¬ x = y then A else B) := by
  intro p l e s m args below meth c hC r S' ho ls H locs hl hP hS
  refine W.lcmp hC.1 hC.2.1 hd ?_
  exact lv_if_ne hC.1 hC.2.1 hd2 ht (fun hc => kt p l e s m args below meth c hC r S' (by rw [← ho, if_pos (fun h => hc ((lg_cmp_eq x y).mpr h))]) ls H locs hl hP hS) (fun hc => kf p l e s m args below meth c hC r S' (by rw [← ho, if_neg (fun h => h ((lg_cmp_eq x y).mp hc))]) ls H locs hl hP hS)
theorem sm_lcmp_lt {x y : Int64} {A B : Option (ρ × St)} {off : Int} (tgt : Nat) {pc : Nat} (hd : decode cc pc = .ok (.lcmp, 1)) (hd2 : decode cc (pc + 1) = .ok (.ifCond .lt off, 3)) (ht : ((pc + 1 : Nat) : Int) + off = (tgt : Int)) (kt : Sim em Z R own cc nL rt tgt lv st S A) (kf : Sim em Z R own cc nL rt (pc + 4) lv st S B) : Sim em Z R own cc nL rt pc lv (.long y :: .long x :: st) S (if x < y then A else B) := by
  intro p l e s m args below meth c hC r S' ho ls H locs hl hP hS
  refine W.lcmp hC.1 hC.2.1 hd ?_
  exact lv_if_lt hC.1 hC.2.1 hd2 ht (fun hc => kt p l e s m args below meth c hC r S' (by rw [← ho, if_pos ((lg_cmp_lt x y).mp hc)]) ls H locs hl hP hS) (fun hc => kf p l e s m args below meth c hC r S' (by rw [← ho, if_neg (fun h => hc ((lg_cmp_lt x y).mpr h))]) ls H locs hl hP hS)
theorem sm_lcmp_ge {x y : Int64} {A B : Option (ρ × St)} {off : Int} (tgt : Nat) {pc : Nat} (hd : decode cc pc = .ok (.lcmp, 1)) (hd2 : decode cc (pc + 1) = .ok (.ifCond .ge off, 3)) (ht : ((pc + 1 : Nat) : Int) + off = (tgt : Int)) (kt : Sim em Z R own cc nL rt tgt lv st S A) (kf : Sim em Z R own cc nL rt (pc + 4) lv st S B) : Sim em Z R own cc nL rt pc lv (.long y :: .long x :: st) S (if y ≤ x then A else B) := by
  intro p l e s m args below meth c hC r S' ho ls H locs hl hP hS
  refine W.lcmp hC.1 hC.2.1 hd ?_
  exact lv_if_ge hC.1 hC.2.1 hd2 ht (fun hc => kt p l e s m args below meth c hC r S' (by rw [← ho, if_pos ((lg_cmp_ge x y).mp hc)]) ls H locs hl hP hS) (fun hc => kf p l e s m args below meth c hC r S' (by rw [← ho, if_neg (fun h => hc ((lg_cmp_ge x y).mpr h))]) ls H locs hl hP hS)
theorem sm_lcmp_gt {x y : Int64} {A B : Option (ρ × St)} {off : Int} (tgt : Nat) {pc : Nat} (hd : decode cc pc = .ok (.lcmp, 1)) (hd2 : decode cc (pc + 1) = .ok (.ifCond .gt off, 3)) (ht : ((pc + 1 : Nat) : Int) + off = (tgt : Int)) (kt : Sim em Z R own cc nL rt tgt lv st S A) (kf : Sim em Z R own cc nL rt (pc + 4) lv st S B) : Sim em Z R own cc nL rt pc lv (.long y :: .long x :: st) S (if y < x then A else B) := by
  intro p l e s m args below meth c hC r S' ho ls H locs hl hP hS
  refine W.lcmp hC.1 hC.2.1 hd ?_
  exact lv_if_gt hC.1 hC.2.1 hd2 ht (fun hc => kt p l e s m args below meth c hC r S' (by rw [← ho, if_pos ((lg_cmp_gt x y).mp hc)]) ls H locs hl hP hS) (fun hc => kf p l e s m args below meth c hC r S' (by rw [← ho, if_neg (fun h => hc ((lg_cmp_gt x y).mpr h))]) ls H locs hl hP hS)
theorem sm_lcmp_le {x y : Int64} {A B : Option (ρ × St)} {off : Int} (tgt : Nat) {pc : Nat} (hd : decode cc pc = .ok (.lcmp, 1)) (hd2 : decode cc (pc + 1) = .ok (.ifCond .le off, 3)) (ht : ((pc + 1 : Nat) : Int) + off = (tgt : Int)) (kt : Sim em Z R own cc nL rt tgt lv st S A) (kf : Sim em Z R own cc nL rt (pc + 4) lv st S B) : Sim em Z R own cc nL rt pc lv (.long y :: .long x :: st) S (if x ≤ y then A else B) := by
  intro p l e s m args below meth c hC r S' ho ls H locs hl hP hS
  refine W.lcmp hC.1 hC.2.1 hd ?_
  exact lv_if_le hC.1 hC.2.1 hd2 ht (fun hc => kt p l e s m args below meth c hC r S' (by rw [← ho, if_pos ((lg_cmp_le x y).mp hc)]) ls H locs hl hP hS) (fun hc => kf p l e s m args below meth c hC r S' (by rw [← ho, if_neg (fun h => hc ((lg_cmp_le x y).mpr h))]) ls H locs hl hP hS)
/-- what dcmpl, dcmpg (op) push -/
def dx (x y : UInt64) (op : CmpOp) : Int32 := Op.cmpValue (FP.dcmp x y) op
def fx (x y : UInt32) (op : CmpOp) : Int32 := Op.cmpValue (FP.fcmp x y) op
theorem sm_dcmp_eq {x y : UInt64} {op : CmpOp} {A B : Option (ρ × St)} {off : Int} (tgt : Nat) {pc : Nat} (hd : decode cc pc = .ok (.dcmp op, 1)) (hd2 : decode cc (pc + 1) = .ok (.ifCond .eq off, 3)) (ht : ((pc + 1 : Nat) : Int) + off = (tgt : Int)) (kt : Sim em Z R own cc nL rt tgt lv st S A) (kf : Sim em Z R own cc nL rt (pc + 4) lv st S B) : Sim em Z R own cc nL rt pc lv (.double y :: .double x :: st) S (if dx x y op = 0 then A else B) := by
  intro p l e s m args below meth c hC r S' ho ls H locs hl hP hS
  refine lv_dcmp hC.1 hC.2.1 hd ?_
  exact lv_if_eq hC.1 hC.2.1 hd2 ht (fun (hc : dx x y op = 0) => kt p l e s m args below meth c hC r S' (by rw [← ho, if_pos hc]) ls H locs hl hP hS) (fun (hc : ¬ dx x y op = 0) => kf p l e s m args below meth c hC r S' (by rw [← ho, if_neg hc]) ls H locs hl hP hS)
theorem sm_dcmp_ne {x y : UInt64} {op : CmpOp} {A B : Option (ρ × St)} {off : Int} (tgt : Nat) {pc : Nat} (hd : decode cc pc = .ok (.dcmp op, 1)) (hd2 : decode cc (pc + 1) = .ok (.ifCond .ne off, 3)) (ht : ((pc + 1 : Nat) : Int) + off = (tgt : Int)) (kt : Sim em Z R own cc nL rt tgt lv st S A) (kf : Sim em Z R own cc nL rt (pc + 4) lv st S B) : Sim em Z R own cc nL rt pc lv (.double y :: .double x :: st) S (if ¬ dx x y op = 0 then A else B) := by
  intro p l e s m args below meth c hC r S' ho ls H locs hl hP hS
  refine lv_dcmp hC.1 hC.2.1 hd ?_
  exact lv_if_ne hC.1 hC.2.1 hd2 ht (fun (hc : ¬ dx x y op = 0) => kt p l e s m args below meth c hC r S' (by rw [← ho, if_pos hc]) ls H locs hl hP hS) (fun (hc : dx x y op = 0) => kf p l e s m args below meth c hC r S' (by rw [← ho, if_neg (fun h => h hc)]) ls H locs hl hP hS)
theorem sm_dcmp_lt {x y : UInt64} {op : CmpOp} {A B : Option (ρ × St)} {off : Int} (tgt : Nat) {pc : Nat} (hd : decode cc pc = .ok (.dcmp op, 1)) (hd2 : decode cc (pc + 1) = .ok (.ifCond .lt off, 3)) (ht : ((pc + 1 : Nat) : Int) + off = (tgt : Int)) (kt : Sim em Z R own cc nL rt tgt lv st S A) (kf : Sim em Z R own cc nL rt (pc + 4) lv st S B) : Sim em Z R own cc nL rt pc lv (.double y :: .double x :: st) S (if dx x y op < 0 then A else B) := by
  intro p l e s m args below meth c hC r S' ho ls H locs hl hP hS
  refine lv_dcmp hC.1 hC.2.1 hd ?_
  exact lv_if_lt hC.1 hC.2.1 hd2 ht (fun (hc : dx x y op < 0) => kt p l e s m args below meth c hC r S' (by rw [← ho, if_pos hc]) ls H locs hl hP hS) (fun (hc : ¬ dx x y op < 0) => kf p l e s m args below meth c hC r S' (by rw [← ho, if_neg hc]) ls H locs hl hP hS)
theorem sm_dcmp_ge {x y : UInt64} {op : CmpOp} {A B : Option (ρ × St)} {off : Int} (tgt : Nat) {pc : Nat} (hd : decode cc pc = .ok (.dcmp op, 1)) (hd2 : decode cc (pc + 1) = .ok (.ifCond .ge off, 3)) (ht : ((pc + 1 : Nat) : Int) + off = (tgt : Int)) (kt : Sim em Z R own cc nL rt tgt lv st S A) (kf : Sim em Z R own cc nL rt (pc + 4) lv st S B) : Sim em Z R own cc nL rt pc lv (.double y :: .double x :: st) S (if 0 ≤ dx x y op then A else B) := by
  intro p l e s m args below meth c hC r S' ho ls H locs hl hP hS
  refine lv_dcmp hC.1 hC.2.1 hd ?_
  exact lv_if_ge hC.1 hC.2.1 hd2 ht (fun (hc : 0 ≤ dx x y op) => kt p l e s m args below meth c hC r S' (by rw [← ho, if_pos hc]) ls H locs hl hP hS) (fun (hc : ¬ 0 ≤ dx x y op) => kf p l e s m args below meth c hC r S' (by rw [← ho, if_neg hc]) ls H locs hl hP hS)
theorem sm_dcmp_gt {x y : UInt64} {op : CmpOp} {A B : Option (ρ × St)} {off : Int} (tgt : Nat) {pc : Nat} (hd : decode cc pc = .ok (.dcmp op, 1)) (hd2 : decode cc (pc + 1) = .ok (.ifCond .gt off, 3)) (ht : ((pc + 1 : Nat) : Int) + off = (tgt : Int)) (kt : Sim em Z R own cc nL rt tgt lv st S A) (kf : Sim em Z R own cc nL rt (pc + 4) lv st S B) : Sim em Z R own cc nL rt pc lv (.double y :: .double x :: st) S (if 0 < dx x y op then A else B) := by
  intro p l e s m args below meth c hC r S' ho ls H locs hl hP hS
  refine lv_dcmp hC.1 hC.2.1 hd ?_
  exact lv_if_gt hC.1 hC.2.1 hd2 ht (fun (hc : 0 < dx x y op) => kt p l e s m args below meth c hC r S' (by rw [← ho, if_pos hc]) ls H locs hl hP hS) (fun (hc : ¬ 0 < dx x y op) => kf p l e s m args below meth c hC r S' (by rw [← ho, if_neg hc]) ls H locs hl hP hS)
theorem sm_dcmp_le {x y : UInt64} {op : CmpOp} {A B : Option (ρ × St)} {off : Int} (tgt : Nat) {pc : Nat} (hd : decode cc pc = .ok (.dcmp op, 1)) (hd2 : decode cc (pc + 1) = .ok (.ifCond .le off, 3)) (ht : ((pc + 1 : Nat) : Int) + off = (tgt : Int)) (kt : Sim em Z R own cc nL rt tgt lv st S A) (kf : Sim em Z R own cc nL rt (pc + 4) lv st S B) : Sim em Z R own cc nL rt pc lv (.double y :: .double x :: st) S (if dx x y op ≤ 0 then A else B) := by
  intro p l e s m args below meth c hC r S' ho ls H locs hl hP hS
  refine lv_dcmp hC.1 hC.2.1 hd ?_
  exact lv_if_le hC.1 hC.2.1 hd2 ht (fun (hc : dx x y op ≤ 0) => kt p l e s m args below meth c hC r S' (by rw [← ho, if_pos hc]) ls H locs hl hP hS) (fun (hc : ¬ dx x y op ≤ 0) => kf p l e s m args below meth c hC r S' (by rw [← ho, if_neg hc]) ls H locs hl hP hS)
theorem sm_fcmp_eq {x y : UInt32} {op : CmpOp} {A B : Option (ρ × St)} {off : Int} (tgt : Nat) {pc : Nat} (hd : decode cc pc = .ok (.fcmp op, 1)) (hd2 : decode cc (pc + 1) = .ok (.ifCond .eq off, 3)) (ht : ((pc + 1 : Nat) : Int) + off = (tgt : Int)) (kt : Sim em Z R own cc nL rt tgt lv st S A) (kf : Sim em Z R own cc nL rt (pc + 4) lv st S B) : Sim em Z R own cc nL rt pc lv (.float y :: .float x :: st) S (if fx x y op = 0 then A else B) := by
  intro p l e s m args below meth c hC r S' ho ls H locs hl hP hS
  refine lv_fcmp hC.1 hC.2.1 hd ?_
  exact lv_if_eq hC.1 hC.2.1 hd2 ht (fun (hc : fx x y op = 0) => kt p l e s m args below meth c hC r S' (by rw [← ho, if_pos hc]) ls H locs hl hP hS) (fun (hc : ¬ fx x y op = 0) => kf p l e s m args below meth c hC r S' (by rw [← ho, if_neg hc]) ls H locs hl hP hS)
/-- a switch: the targets, key by key, beside the pure function's branches -/
def swA {ρ : Type} (em : ρ → Option Value) (Z : ZT) (R : Room) (own : String) (cc : ByteArray) (nL : Nat) (rt : Option FieldType) (lv : List (Nat × Value)) (st : List Value) (S : St) : List Nat → List (Int32 × Option (ρ × St)) → Prop
  | t :: ts, (_, a) :: l => Sim em Z R own cc nL rt t lv st S a ∧ swA em Z R own cc nL rt lv st S ts l
  | [], [] => True
  | _, _ => False
theorem sw_hit {β : Type} {x : Int32} {d : β} : ∀ {l : List (Int32 × β)}, (∃ (i : Nat) (a : β), l[i]? = some (x, a) ∧ sw x d l = a) ∨ ((∀ q ∈ l, x ≠ q.1) ∧ sw x d l = d)
  | [] => Or.inr ⟨fun _ h => absurd h List.not_mem_nil, rfl⟩
  | (k, a) :: l => by
    by_cases h : x = k
    · subst h
      exact Or.inl ⟨0, a, rfl, if_pos rfl⟩
    · rcases sw_hit (x := x) (d := d) (l := l) with ⟨i, b, h1, h2⟩ | ⟨h1, h2⟩
      · exact Or.inl ⟨i + 1, b, h1, by rw [← h2]; exact if_neg h⟩
      · exact Or.inr ⟨fun q hq => by
          rcases List.mem_cons.mp hq with rfl | hq
          · exact h
          · exact h1 q hq, (if_neg h : sw x d ((k, a) :: l) = sw x d l).trans h2⟩
theorem swA_at {ts : List Nat} {l : List (Int32 × Option (ρ × St))} (h : swA em Z R own cc nL rt lv st S ts l) : ∀ {i : Nat} {k : Int32} {a : Option (ρ × St)}, l[i]? = some (k, a) → ∃ t, ts[i]? = some t ∧ Sim em Z R own cc nL rt t lv st S a := by
  induction ts generalizing l with
  | nil =>
    intro i k a hi
    cases l with
    | nil => cases hi
    | cons _ _ => exact h.elim
  | cons t ts ih =>
    intro i k a hi
    cases l with
    | nil => exact h.elim
    | cons q l =>
      cases i with
      | zero =>
        cases hi
        exact ⟨t, rfl, h.1⟩
      | succ i => exact ih h.2 hi
/-- keys lo, lo + 1, .. -/
def swK : Int → List Int32 → Bool
  | _, [] => true
  | a, k :: l => decide (k.toInt = a) && swK (a + 1) l
theorem swK_at : ∀ {l : List Int32} {a : Int} (_ : swK a l = true) {i : Nat} {k : Int32}, l[i]? = some k → k.toInt = a + i
  | [], _, _, i, k, hi => by cases hi
  | x :: l, a, h, i, k, hi => by
    simp only [swK, Bool.and_eq_true, decide_eq_true_eq] at h
    cases i with
    | zero =>
      cases hi
      omega
    | succ i =>
      have := swK_at h.2 (i := i) (k := k) hi
      omega
theorem sm_tsw {x : Int32} {dflt lo hi : Int} {offs : Array Int} {len : Nat} {d : Option (ρ × St)} {l : List (Int32 × Option (ρ × St))} {pc : Nat} (dt : Nat) (ts : List Nat) (hd : decode cc pc = .ok (.tableswitch dflt lo hi offs, len)) (hk : swK lo (l.map (·.1)) = true) (hln : hi = lo + (l.length : Int) - 1) (hts : offs.toList.map (fun o => (pc : Int) + o) = ts.map (fun (t : Nat) => (t : Int))) (hdt : (pc : Int) + dflt = (dt : Int)) (ka : swA em Z R own cc nL rt lv st S ts l) (kd : Sim em Z R own cc nL rt dt lv st S d) : Sim em Z R own cc nL rt pc lv (.int x :: st) S (sw x d l) := by
  intro p l1 e s m args below meth c hC r S' ho ls H locs hl hP hS
  rcases sw_hit (x := x) (d := d) (l := l) with ⟨i, a, h1, h2⟩ | ⟨h1, h2⟩
  · rw [h2] at ho
    obtain ⟨t, ht, hs⟩ := swA_at ka h1
    have hil : i < l.length := (List.getElem?_eq_some_iff.mp h1).1
    have hx : x.toInt = lo + i := swK_at hk (by rw [List.getElem?_map, h1]; rfl)
    have hof : ∃ off, offs[i]? = some off ∧ (pc : Int) + off = (t : Int) := by
      have h3 : (offs.toList.map (fun o => (pc : Int) + o))[i]? = some (t : Int) := by rw [hts, List.getElem?_map, ht]; rfl
      rw [List.getElem?_map] at h3
      cases h4 : offs.toList[i]? with
      | none => rw [h4] at h3; cases h3
      | some off =>
        rw [h4] at h3
        exact ⟨off, by rw [← Array.getElem?_toList]; exact h4, Option.some.inj h3⟩
    obtain ⟨off, hoff, htt⟩ := hof
    refine lv_tableIn (off := off) hC.1 hC.2.1 hd (by omega) (by omega) (by rw [hx]; rw [show (lo + (i : Int) - lo).toNat = i by omega]; exact hoff) htt ?_
    exact hs p l1 e s m args below meth c hC r S' ho ls H locs hl hP hS
  · rw [h2] at ho
    refine lv_tableOut hC.1 hC.2.1 hd ?_ hdt (kd p l1 e s m args below meth c hC r S' ho ls H locs hl hP hS)
    by_cases hlo : x.toInt < lo
    · exact Or.inl hlo
    · refine Or.inr ?_
      apply Classical.byContradiction
      intro hh
      have hil : (x.toInt - lo).toNat < l.length := by omega
      obtain ⟨q, hq⟩ : ∃ q, l[(x.toInt - lo).toNat]? = some q := ⟨_, List.getElem?_eq_getElem hil⟩
      have h5 : q.1.toInt = lo + ((x.toInt - lo).toNat : Int) := swK_at hk (by rw [List.getElem?_map, hq]; rfl)
      exact h1 q (List.mem_of_getElem? hq) (Int32.toInt_inj.mp (by omega))
theorem lsw_off {ps : List (Int × Int)} {dflt : Int} {x : Int32} : ∀ {l : List (Int32 × Option (ρ × St))} (_ : ps.map (·.1) = l.map (fun q => q.1.toInt)), (∀ q ∈ l, x ≠ q.1) → Op.lookupswitch.offset ps dflt x.toInt = dflt := by
  induction ps with
  | nil => intro l _ _; rfl
  | cons a ps ih =>
    intro l h hne
    cases l with
    | nil => cases h
    | cons q l =>
      simp only [List.map_cons, List.cons.injEq] at h
      obtain ⟨a1, a2⟩ := a
      rw [lv_osw (k := q.1) (hne q List.mem_cons_self) h.1.symm]
      exact ih h.2 (fun q hq => hne q (List.mem_cons_of_mem _ hq))
theorem lsw_hit {ps : List (Int × Int)} {dflt : Int} {x : Int32} : ∀ {l : List (Int32 × Option (ρ × St))} (_ : ps.map (·.1) = l.map (fun q => q.1.toInt)) {i : Nat} {a : Option (ρ × St)}, l[i]? = some (x, a) → (l.map (·.1)).Nodup → ∃ o, ps[i]? = some (x.toInt, o) ∧ Op.lookupswitch.offset ps dflt x.toInt = o := by
  induction ps with
  | nil =>
    intro l h i a hi
    cases l with
    | nil => cases hi
    | cons q l => cases h
  | cons b ps ih =>
    intro l h i a hi hnd
    cases l with
    | nil => cases h
    | cons q l =>
      simp only [List.map_cons, List.cons.injEq] at h
      obtain ⟨b1, b2⟩ := b
      cases i with
      | zero =>
        cases hi
        refine ⟨b2, by rw [List.getElem?_cons_zero]; rw [← h.1], ?_⟩
        rw [Op.lookupswitch.offset_cons, if_pos (by exact h.1)]
      | succ i =>
        have hi' : l[i]? = some (x, a) := hi
        simp only [List.map_cons, List.nodup_cons] at hnd
        obtain ⟨o, h1, h2⟩ := ih h.2 hi' hnd.2
        refine ⟨o, h1, ?_⟩
        rw [lv_osw (k := q.1) (fun e => hnd.1 (by rw [← e]; exact List.mem_map.mpr ⟨(x, a), List.mem_of_getElem? hi', rfl⟩)) h.1.symm]
        exact h2
theorem sm_lsw {x : Int32} {dflt : Int} {ps : Array (Int × Int)} {len : Nat} {d : Option (ρ × St)} {l : List (Int32 × Option (ρ × St))} {pc : Nat} (dt : Nat) (ts : List Nat) (hd : decode cc pc = .ok (.lookupswitch dflt ps, len)) (hp : (ps.toList.zip (ps.toList.drop 1)).all (fun (a, next) => a.1 < next.1) = true) (hk : ps.toList.map (·.1) = l.map (fun q => q.1.toInt)) (hnd : (l.map (·.1)).Nodup) (hts : ps.toList.map (fun o => (pc : Int) + o.2) = ts.map (fun (t : Nat) => (t : Int))) (hdt : (pc : Int) + dflt = (dt : Int)) (ka : swA em Z R own cc nL rt lv st S ts l) (kd : Sim em Z R own cc nL rt dt lv st S d) : Sim em Z R own cc nL rt pc lv (.int x :: st) S (sw x d l) := by
  intro p l1 e s m args below meth c hC r S' ho ls H locs hl hP hS
  rcases sw_hit (x := x) (d := d) (l := l) with ⟨i, a, h1, h2⟩ | ⟨h1, h2⟩
  · rw [h2] at ho
    obtain ⟨t, ht, hs⟩ := swA_at ka h1
    obtain ⟨off, hp1, hp2⟩ := lsw_hit (dflt := dflt) hk h1 hnd
    have htt : (pc : Int) + off = (t : Int) := by
      have h3 : (ps.toList.map (fun o => (pc : Int) + o.2))[i]? = some (t : Int) := by rw [hts, List.getElem?_map, ht]; rfl
      rw [List.getElem?_map, hp1] at h3
      exact Option.some.inj h3
    exact lv_lookup hC.1 hC.2.1 hd hp hp2 htt (hs p l1 e s m args below meth c hC r S' ho ls H locs hl hP hS)
  · rw [h2] at ho
    exact lv_lookup hC.1 hC.2.1 hd hp (lsw_off hk h1) hdt (kd p l1 e s m args below meth c hC r S' ho ls H locs hl hP hS)

end SM
end
section
/-! fields, arrays, calls, ends -/
/-- field kf of class ci, as entry idx of class own names it -/
def Fld (own : String) (idx ci kf : Nat) : Prop := ∃ (C : String) (T : u_T) (N : Nat) (t0 : Nat → FieldType), cls7[ci]? = some (C, T, N) ∧ kf < N ∧ (∀ w ∈ u_ws C T N, w ∈ lw_good) ∧ Cond.fieldLink own idx (T kf).1 (T kf).2.1 (T kf).2.2.1 ∈ lw_good ∧ (∀ k, k < N → parseFieldDescriptor (T k).2.2.1 = some (t0 k)) ∧ (∀ a, a < N → ∀ b, b < N → a ≠ b → (T a).2.1 ≠ (T b).2.1)
/-- the same of a field that may be written, of type ty -/
def FldW (own : String) (idx ci kf : Nat) (ty : FieldType) : Prop := ∃ (C : String) (T : u_T) (N : Nat) (t0 : Nat → FieldType), cls7[ci]? = some (C, T, N) ∧ kf < N ∧ (∀ w ∈ u_ws C T N, w ∈ lw_good) ∧ Cond.fieldLink own idx (T kf).1 (T kf).2.1 (T kf).2.2.1 ∈ lw_good ∧ (∀ k, k < N → parseFieldDescriptor (T k).2.2.1 = some (t0 k)) ∧ (∀ a, a < N → ∀ b, b < N → a ≠ b → (T a).2.1 ≠ (T b).2.1) ∧ (T kf).2.2.2 = false ∧ parseFieldDescriptor (T kf).2.2.1 = some ty
/-- a class of cls7: what of it is decided once -/
def ClsOK (ci : Nat) (C : String) (T : u_T) (N : Nat) (t0 : Nat → FieldType) : Prop := cls7[ci]? = some (C, T, N) ∧ (∀ w ∈ u_ws C T N, w ∈ lw_good) ∧ (∀ k, k < N → parseFieldDescriptor (T k).2.2.1 = some (t0 k)) ∧ (∀ a, a < N → ∀ b, b < N → a ≠ b → (T a).2.1 ≠ (T b).2.1)
theorem in_good {ws : List Cond} (h : ∀ w ∈ ws, w ∈ lw_tbl) (hg : ws.all goodWord = true) : ∀ w ∈ ws, w ∈ lw_good := fun w hw => List.mem_filter.mpr ⟨h w hw, List.all_eq_true.mp hg w hw⟩
theorem Fld.mk {own : String} {idx ci kf : Nat} {C : String} {T : u_T} {N : Nat} {t0 : Nat → FieldType} (hC : ClsOK ci C T N t0) (hk : kf < N) (hl : Cond.fieldLink own idx (T kf).1 (T kf).2.1 (T kf).2.2.1 ∈ lw_good) : Fld own idx ci kf := ⟨C, T, N, t0, hC.1, hk, hC.2.1, hl, hC.2.2.1, hC.2.2.2⟩
theorem FldW.mk {own : String} {idx ci kf : Nat} {C : String} {T : u_T} {N : Nat} {t0 : Nat → FieldType} {ty : FieldType} (hC : ClsOK ci C T N t0) (hk : kf < N) (hl : Cond.fieldLink own idx (T kf).1 (T kf).2.1 (T kf).2.2.1 ∈ lw_good) (hf : (T kf).2.2.2 = false) (ht : parseFieldDescriptor (T kf).2.2.1 = some ty) : FldW own idx ci kf ty := ⟨C, T, N, t0, hC.1, hk, hC.2.1, hl, hC.2.2.1, hC.2.2.2, hf, ht⟩
theorem kd_eq {c k : Nat} (h : (kd0 c).1 = k) : kd0 c = (k, (kd0 c).2) := by rw [← h]
section SMF
variable {ρ : Type} {em : ρ → Option Value} {Z : ZT} {R : Room} {own : String} {cc : ByteArray} {nL : Nat} {rt : Option FieldType} {lv : List (Nat × Value)} {st : List Value} {S : St} {o : Option (ρ × St)}
theorem sm_getI {ci kf idx c pc : Nat} {K : Int32 → Option (ρ × St)} (hd : decode cc pc = .ok (.getfield idx, 3)) (hf : Fld own idx ci kf) (hci : ci < 7) (ht : (fty ci)[kf]? = some 0) (k : ∀ v, Sim em Z R own cc nL rt (pc + 3) lv (.int v :: st) S (K v)) : Sim em Z R own cc nL rt pc lv (.ref c :: st) S (gI ci kf c S K) := by
  intro p l e s m args below meth cd hC r S' ho ls H locs hl hP hS
  unfold gI at ho
  split at ho
  · next hk =>
    obtain ⟨C, T, N, t0, h1, h2, h3, h4, h5, h6⟩ := hf
    have hlt : c < 226 := kd_lt (kd_eq hk) (by omega)
    exact va_get (D := Z.2.1) (v := .int (S.1 c kf)) hC.1 hC.2.1 hC.2.2.2.2.1 h3 hC.2.2.2.1 hC.2.2.2.2.2.1.1 hP c (by rw [wsO_at Z S hlt, ent_obj (kd_eq hk) hci]) h1 kf h2 (hC.2.2.2.2.1 _ h4) (fun _ h => h) (by rw [flds_at _ _ _ _ _ _ ht]; rfl) hd (k _ p l e s m args below meth cd hC r S' ho ls H locs hl hP hS)
  · cases ho
theorem sm_getL {ci kf idx c pc : Nat} {K : Int64 → Option (ρ × St)} (hd : decode cc pc = .ok (.getfield idx, 3)) (hf : Fld own idx ci kf) (hci : ci < 7) (ht : (fty ci)[kf]? = some 1) (k : ∀ v, Sim em Z R own cc nL rt (pc + 3) lv (.long v :: st) S (K v)) : Sim em Z R own cc nL rt pc lv (.ref c :: st) S (gL ci kf c S K) := by
  intro p l e s m args below meth cd hC r S' ho ls H locs hl hP hS
  unfold gL at ho
  split at ho
  · next hk =>
    obtain ⟨C, T, N, t0, h1, h2, h3, h4, h5, h6⟩ := hf
    have hlt : c < 226 := kd_lt (kd_eq hk) (by omega)
    exact va_get (D := Z.2.1) (v := .long (S.2 c kf)) hC.1 hC.2.1 hC.2.2.2.2.1 h3 hC.2.2.2.1 hC.2.2.2.2.2.1.1 hP c (by rw [wsO_at Z S hlt, ent_obj (kd_eq hk) hci]) h1 kf h2 (hC.2.2.2.2.1 _ h4) (fun _ h => h) (by rw [flds_at _ _ _ _ _ _ ht]; rfl) hd (k _ p l e s m args below meth cd hC r S' ho ls H locs hl hP hS)
  · cases ho
theorem sm_getR {ci kf idx c pc : Nat} {K : Nat → Option (ρ × St)} (hd : decode cc pc = .ok (.getfield idx, 3)) (hf : Fld own idx ci kf) (hci : ci < 7) (ht : (fty ci)[kf]? = some 2) (k : ∀ v, Sim em Z R own cc nL rt (pc + 3) lv (.ref v :: st) S (K v)) : Sim em Z R own cc nL rt pc lv (.ref c :: st) S (gR ci kf c K) := by
  intro p l e s m args below meth cd hC r S' ho ls H locs hl hP hS
  unfold gR at ho
  split at ho
  · next hk =>
    obtain ⟨C, T, N, t0, h1, h2, h3, h4, h5, h6⟩ := hf
    have hlt : c < 226 := kd_lt (kd_eq hk) (by omega)
    cases hr : R0 c kf with
    | none => rw [hr] at ho; cases ho
    | some a =>
      rw [hr] at ho
      exact va_get (D := Z.2.1) (v := .ref (Z.1 a)) hC.1 hC.2.1 hC.2.2.2.2.1 h3 hC.2.2.2.1 hC.2.2.2.2.2.1.1 hP c (by rw [wsO_at Z S hlt, ent_obj (kd_eq hk) hci]) h1 kf h2 (hC.2.2.2.2.1 _ h4) (fun _ h => h) (by rw [flds_at _ _ _ _ _ _ ht]; simp [fv, hr, va_rf]) hd (k a p l e s m args below meth cd hC r S' ho ls H locs hl hP hS)
  · cases ho
theorem sm_putI {ci kf idx c pc : Nat} {v : Int32} {K : St → Option (ρ × St)} (hd : decode cc pc = .ok (.putfield idx, 3)) (hf : FldW own idx ci kf .int) (hci : ci < 7) (ht : (fty ci)[kf]? = some 0) (k : ∀ S1, Sim em Z R own cc nL rt (pc + 3) lv st S1 (K S1)) : Sim em Z R own cc nL rt pc lv (.int v :: .ref c :: st) S (pI ci kf c v S K) := by
  intro p l e s m args below meth cd hC r S' ho ls H locs hl hP hS
  unfold pI at ho
  split at ho
  · next hk =>
    obtain ⟨C, T, N, t0, h1, h2, h3, h4, h5, h6, h7, h8⟩ := hf
    have hlt : c < 226 := kd_lt (kd_eq hk) (by omega)
    have hD := zD hC.2.2.2.2.2.1 S
    refine va_put (D := Z.2.1) (ty := .int) (v := .int v) hC.1 hC.2.1 hC.2.2.2.2.1 h3 t0 h5 h6 hC.2.2.2.1 hC.2.2.2.2.2.1.1 hP hD hS c (by rw [wsO_at Z S hlt, ent_obj (kd_eq hk) hci]) h1 kf h2 (hC.2.2.2.2.1 _ h4) (fun _ h => h) h7 h8 rfl rfl ?_ hd (fun H1 locs1 hP1 hD1 hS1 => ?_)
    · have := (List.getElem?_eq_some_iff.mp ht).1
      simpa [flds] using this
    · rw [flds_setI _ _ _ _ _ _ ht, wsO_set (offc_setI S c kf v) (ent_obj (kd_eq hk) hci)] at hP1
      exact k _ p l e s m args below meth cd hC r S' ho ls H1 locs1 hl hP1 hS1
  · cases ho
theorem sm_putZ {ci kf idx c pc : Nat} {v : Int32} {K : St → Option (ρ × St)} (hd : decode cc pc = .ok (.putfield idx, 3)) (hf : FldW own idx ci kf .boolean) (hci : ci < 7) (ht : (fty ci)[kf]? = some 0) (k : ∀ S1, Sim em Z R own cc nL rt (pc + 3) lv st S1 (K S1)) : Sim em Z R own cc nL rt pc lv (.int v :: .ref c :: st) S (pZ ci kf c v S K) := by
  intro p l e s m args below meth cd hC r S' ho ls H locs hl hP hS
  unfold pZ at ho
  split at ho
  · next hk =>
    obtain ⟨C, T, N, t0, h1, h2, h3, h4, h5, h6, h7, h8⟩ := hf
    have hlt : c < 226 := kd_lt (kd_eq hk.1) (by omega)
    have hD := zD hC.2.2.2.2.2.1 S
    refine va_put (D := Z.2.1) (ty := .boolean) (v := .int v) hC.1 hC.2.1 hC.2.2.2.2.1 h3 t0 h5 h6 hC.2.2.2.1 hC.2.2.2.2.2.1.1 hP hD hS c (by rw [wsO_at Z S hlt, ent_obj (kd_eq hk.1) hci]) h1 kf h2 (hC.2.2.2.2.1 _ h4) (fun _ h => h) h7 h8 (by rcases hk.2 with h | h <;> subst h <;> rfl) (by rcases hk.2 with h | h <;> subst h <;> rfl) ?_ hd (fun H1 locs1 hP1 hD1 hS1 => ?_)
    · have := (List.getElem?_eq_some_iff.mp ht).1
      simpa [flds] using this
    · rw [flds_setI _ _ _ _ _ _ ht, wsO_set (offc_setI S c kf v) (ent_obj (kd_eq hk.1) hci)] at hP1
      exact k _ p l e s m args below meth cd hC r S' ho ls H1 locs1 hl hP1 hS1
  · cases ho
theorem sm_putL {ci kf idx c pc : Nat} {v : Int64} {K : St → Option (ρ × St)} (hd : decode cc pc = .ok (.putfield idx, 3)) (hf : FldW own idx ci kf .long) (hci : ci < 7) (ht : (fty ci)[kf]? = some 1) (k : ∀ S1, Sim em Z R own cc nL rt (pc + 3) lv st S1 (K S1)) : Sim em Z R own cc nL rt pc lv (.long v :: .ref c :: st) S (pL ci kf c v S K) := by
  intro p l e s m args below meth cd hC r S' ho ls H locs hl hP hS
  unfold pL at ho
  split at ho
  · next hk =>
    obtain ⟨C, T, N, t0, h1, h2, h3, h4, h5, h6, h7, h8⟩ := hf
    have hlt : c < 226 := kd_lt (kd_eq hk) (by omega)
    have hD := zD hC.2.2.2.2.2.1 S
    refine va_put (D := Z.2.1) (ty := .long) (v := .long v) hC.1 hC.2.1 hC.2.2.2.2.1 h3 t0 h5 h6 hC.2.2.2.1 hC.2.2.2.2.2.1.1 hP hD hS c (by rw [wsO_at Z S hlt, ent_obj (kd_eq hk) hci]) h1 kf h2 (hC.2.2.2.2.1 _ h4) (fun _ h => h) h7 h8 rfl rfl ?_ hd (fun H1 locs1 hP1 hD1 hS1 => ?_)
    · have := (List.getElem?_eq_some_iff.mp ht).1
      simpa [flds] using this
    · rw [flds_setL _ _ _ _ _ _ ht, wsO_set (offc_setL S c kf v) (ent_obj (kd_eq hk) hci)] at hP1
      exact k _ p l e s m args below meth cd hC r S' ho ls H1 locs1 hl hP1 hS1
  · cases ho
theorem sm_aI {a pc : Nat} {i : Int32} {K : Int32 → Option (ρ × St)} (hd : decode cc pc = .ok (.iaload, 1)) (k : ∀ v, Sim em Z R own cc nL rt (pc + 1) lv (.int v :: st) S (K v)) : Sim em Z R own cc nL rt pc lv (.int i :: .ref a :: st) S (aI a i S K) := by
  intro p l e s m args below meth cd hC r S' ho ls H locs hl hP hS
  unfold aI at ho
  split at ho
  · next hk =>
    have hlt : a < 226 := kd_lt (kd_eq hk.1) (by omega)
    exact va_iald (D := Z.2.1) hC.1 hC.2.1 hC.2.2.2.2.2.1.1 hP a 0 (by rw [wsO_at Z S hlt, ent_I (kd_eq hk.1)]) rfl (inb_in hk.2) hd (k _ p l e s m args below meth cd hC r S' ho ls H locs hl hP hS)
  · cases ho
theorem sm_aJ {a pc : Nat} {i : Int32} {K : Int64 → Option (ρ × St)} (hd : decode cc pc = .ok (.laload, 1)) (k : ∀ v, Sim em Z R own cc nL rt (pc + 1) lv (.long v :: st) S (K v)) : Sim em Z R own cc nL rt pc lv (.int i :: .ref a :: st) S (aJ a i S K) := by
  intro p l e s m args below meth cd hC r S' ho ls H locs hl hP hS
  unfold aJ at ho
  split at ho
  · next hk =>
    have hlt : a < 226 := kd_lt (kd_eq hk.1) (by omega)
    exact va_lald (D := Z.2.1) hC.1 hC.2.1 hC.2.2.2.2.2.1.1 hP a 1 (by rw [wsO_at Z S hlt, ent_J (kd_eq hk.1)]) rfl (inb_in hk.2) hd (k _ p l e s m args below meth cd hC r S' ho ls H locs hl hP hS)
  · cases ho
theorem sm_aZ {a pc : Nat} {i : Int32} {K : Int32 → Option (ρ × St)} (hd : decode cc pc = .ok (.baload, 1)) (k : ∀ v, Sim em Z R own cc nL rt (pc + 1) lv (.int v :: st) S (K v)) : Sim em Z R own cc nL rt pc lv (.int i :: .ref a :: st) S (aZ a i S K) := by
  intro p l e s m args below meth cd hC r S' ho ls H locs hl hP hS
  unfold aZ at ho
  split at ho
  · next hk =>
    have hlt : a < 226 := kd_lt (kd_eq hk.1) (by omega)
    exact va_zald (D := Z.2.1) hC.1 hC.2.1 hC.2.2.2.2.2.1.1 hP a 2 (by rw [wsO_at Z S hlt, ent_Z (kd_eq hk.1)]) rfl (inb_in hk.2) hd (k _ p l e s m args below meth cd hC r S' ho ls H locs hl hP hS)
  · cases ho
theorem va_aldg {p : Program} {l : Launch} {e : Env} {R : Room} {s : State} {m : MethodId} {args : Array Value} {below : List Frame} {meth : Method} {c : Code} {H : Heap} {locs : List Loc} {cells slots : Nat} {Q : State → Prop} {cc : ByteArray} {pc : Nat} {ls : Array Slot} {rest : List Value} {D : va_G} {cl : List vw_C} {a : Nat} {tys : List (ClassId × FieldType)} {ws : va_W} (hexec : p.tables.exec = Jvm.exec) (hb : c.code = cc) (hK : va_K D cl tys s) (hP : va_P D cl ws H) (q0 t0 : Nat) {cA : ClassId} {ty : FieldType} {n : Nat} {f : Nat → Option Nat} (ha : ws[q0]? = some (a, .inl (cA, n, .inr (.inr (.inr (.inr f)))))) (ht : tys[t0]? = some (cA, ty)) (hty : ty.isReference = true) {i : Int32} (hin : vp_in i n) (hdg : decode cc pc = .ok (.aaload, 1))
    (kk : W p l e R s m args below meth c H locs cells slots Q (F0 m (pc + 1) ls (va_rf (f i.toNatClampNeg) :: rest))) : W p l e R s m args below meth c H locs cells slots Q (F0 m pc ls (.int i :: .ref a :: rest)) := by
  have hlt : i.toNatClampNeg < n := Nat.not_le.mp fun q => hin (Or.inr q)
  exact W.aald (v := va_rf (f i.toNatClampNeg)) (ty := ty) hexec hb (hP q0 _ ha) ((hK.2 t0 _ ht).1 n (fun j => va_rf (f j))) hty (fun q => by cases q) (by show ¬ (i < 0 ∨ (arrV _ _ _).slots.size ≤ _); rw [arrV_size]; exact hin) (by show (arrV _ _ _).slots[_]? = _; rw [arrV_read _ _ hlt]) rfl rfl hdg kk
theorem sm_aR {q a pc : Nat} {i : Int32} {K : Nat → Option (ρ × St)} (hd : decode cc pc = .ok (.aaload, 1)) (hq : q = 13 ∨ q = 14 ∨ q = 15) (k : ∀ v, Sim em Z R own cc nL rt (pc + 1) lv (.ref v :: st) S (K v)) : Sim em Z R own cc nL rt pc lv (.int i :: .ref a :: st) S (aR q a i K) := by
  intro p l e s m args below meth cd hC r S' ho ls H locs hl hP hS
  unfold aR at ho
  split at ho
  · next hk =>
    have hlt : a < 226 := kd_lt (kd_eq hk.1) (by omega)
    cases hr : R0 a i.toNatClampNeg with
    | none => rw [hr] at ho; cases ho
    | some b =>
      rw [hr] at ho
      have key : ∀ ty, (tyz Z)[q - 10]? = some (Z.2.2 (q - 10), ty) → ty.isReference = true → W p l e R s m args below meth cd H locs 0 0 (MQ below (QX Z (em r) S') args s 0 0 (zA Z)) (F0 m pc ls (trs Z (.int i :: .ref a :: st))) := fun ty h1 h2 => by
        refine va_aldg (D := Z.2.1) hC.1 hC.2.1 hC.2.2.2.2.2.1.1 hP a (q - 10) (by rw [wsO_at Z S hlt, ent_Q (kd_eq hk.1) hq]) h1 h2 (inb_in hk.2) hd ?_
        rw [hr]
        exact k b p l e s m args below meth cd hC r S' ho ls H locs hl hP hS
      rcases hq with rfl | rfl | rfl
      · exact key _ rfl rfl
      · exact key _ rfl rfl
      · exact key _ rfl rfl
  · cases ho
theorem sm_aT {pc : Nat} {i : Int32} {K : Int32 → Option (ρ × St)} (hd : decode cc pc = .ok (.iaload, 1)) (k : ∀ v, Sim em Z R own cc nL rt (pc + 1) lv (.int v :: st) S (K v)) : Sim em Z R own cc nL rt pc lv (.int i :: .ref 226 :: st) S (aT i K) := by
  intro p l e s m args below meth cd hC r S' ho ls H locs hl hP hS
  unfold aT at ho
  split at ho
  · next hk => exact va_ti (v := .int (daT i.toNatClampNeg)) hC.1 hC.2.1 hC.2.2.2.2.2.1.2.2.1 hS (inb_in hk) rfl hd (k _ p l e s m args below meth cd hC r S' ho ls H locs hl hP hS)
  · cases ho
theorem sm_gs {idx pc : Nat} (hd : decode cc pc = .ok (.getstatic idx, 3)) (hw : Cond.fieldLink own idx "LoanBook$Dates" "DAYS_AHEAD" "[I" ∈ lw_good) (k : Sim em Z R own cc nL rt (pc + 3) lv (.ref 226 :: st) S o) : Sim em Z R own cc nL rt pc lv st S o := by
  intro p l e s m args below meth cd hC r S' ho ls H locs hl hP hS
  exact va_gets hC.1 hC.2.1 hC.2.2.2.2.2.1.2.1 hS hC.2.2.2.1 (hC.2.2.2.2.1 _ hw) (fun _ h => h) hd (k p l e s m args below meth cd hC r S' ho ls H locs hl hP hS)
theorem sm_sI {a pc : Nat} {i : Int32} {v : Int32} {K : St → Option (ρ × St)} (hd : decode cc pc = .ok (.iastore, 1)) (k : ∀ S1, Sim em Z R own cc nL rt (pc + 1) lv st S1 (K S1)) : Sim em Z R own cc nL rt pc lv (.int v :: .int i :: .ref a :: st) S (sI a i v S K) := by
  intro p l e s m args below meth cd hC r S' ho ls H locs hl hP hS
  unfold sI at ho
  split at ho
  · next hk =>
    have hlt : a < 226 := kd_lt (kd_eq hk.1) (by omega)
    have hD := zD hC.2.2.2.2.2.1 S
    refine va_iast (D := Z.2.1) hC.1 hC.2.1 hC.2.2.2.2.2.1.1 hP hD hS a 0 (by rw [wsO_at Z S hlt, ent_I (kd_eq hk.1)]) rfl (inb_in hk.2) hd (fun H1 locs1 hP1 hD1 hS1 => ?_)
    rw [wsO_set (S' := setI S a i.toNatClampNeg v) (offc_setI S a i.toNatClampNeg v) (by rw [ent_I (kd_eq hk.1)]; congr 3; first | (congr 1; funext j; simp [setI, upd, vp_updL]; done) | (funext j; simp [setI, upd, vp_updL]; done) | (congr 2; funext j; simp [setI, upd, vp_updL]; done))] at hP1
    exact k _ p l e s m args below meth cd hC r S' ho ls H1 locs1 hl hP1 hS1
  · cases ho
theorem sm_sJ {a pc : Nat} {i : Int32} {v : Int64} {K : St → Option (ρ × St)} (hd : decode cc pc = .ok (.lastore, 1)) (k : ∀ S1, Sim em Z R own cc nL rt (pc + 1) lv st S1 (K S1)) : Sim em Z R own cc nL rt pc lv (.long v :: .int i :: .ref a :: st) S (sJ a i v S K) := by
  intro p l e s m args below meth cd hC r S' ho ls H locs hl hP hS
  unfold sJ at ho
  split at ho
  · next hk =>
    have hlt : a < 226 := kd_lt (kd_eq hk.1) (by omega)
    have hD := zD hC.2.2.2.2.2.1 S
    refine va_last (D := Z.2.1) hC.1 hC.2.1 hC.2.2.2.2.2.1.1 hP hD hS a 1 (by rw [wsO_at Z S hlt, ent_J (kd_eq hk.1)]) rfl (inb_in hk.2) hd (fun H1 locs1 hP1 hD1 hS1 => ?_)
    rw [wsO_set (S' := setL S a i.toNatClampNeg v) (offc_setL S a i.toNatClampNeg v) (by rw [ent_J (kd_eq hk.1)]; congr 3; first | (congr 1; funext j; simp [setL, upd, vp_updL]; done) | (funext j; simp [setL, upd, vp_updL]; done) | (congr 2; funext j; simp [setL, upd, vp_updL]; done))] at hP1
    exact k _ p l e s m args below meth cd hC r S' ho ls H1 locs1 hl hP1 hS1
  · cases ho
theorem sm_sZ {a pc : Nat} {i : Int32} {v : Int32} {K : St → Option (ρ × St)} (hd : decode cc pc = .ok (.bastore, 1)) (k : ∀ S1, Sim em Z R own cc nL rt (pc + 1) lv st S1 (K S1)) : Sim em Z R own cc nL rt pc lv (.int v :: .int i :: .ref a :: st) S (sZ a i v S K) := by
  intro p l e s m args below meth cd hC r S' ho ls H locs hl hP hS
  unfold sZ at ho
  split at ho
  · next hk =>
    have hlt : a < 226 := kd_lt (kd_eq hk.1) (by omega)
    have hD := zD hC.2.2.2.2.2.1 S
    refine va_zast (D := Z.2.1) hC.1 hC.2.1 hC.2.2.2.2.2.1.1 hP hD hS a 2 (by rw [wsO_at Z S hlt, ent_Z (kd_eq hk.1)]) rfl (inb_in hk.2) hd (fun H1 locs1 hP1 hD1 hS1 => ?_)
    rw [wsO_set (S' := setI S a i.toNatClampNeg (vp_nar .boolean v)) (offc_setI S a i.toNatClampNeg (vp_nar .boolean v)) (by rw [ent_Z (kd_eq hk.1)]; congr 3; first | (congr 1; funext j; simp [setI, upd, vp_updL]; done) | (funext j; simp [setI, upd, vp_updL]; done) | (congr 2; funext j; simp [setI, upd, vp_updL]; done))] at hP1
    exact k _ p l e s m args below meth cd hC r S' ho ls H1 locs1 hl hP1 hS1
  · cases ho
end SMF
end
section
/-! calls, the JDK's natives, ends -/
/-- a method of an object, as the tables have it -/
def MIv (y : MethodName) (cc : ByteArray) (nL : Nat) (rt : Option FieldType) (n : Nat) : Prop := Cond.code y cc nL rt ∈ lw_good ∧ Cond.instanceMethod y ∈ lw_good ∧ Cond.selects y.cls y y ∈ lw_good ∧ Cond.initialized y.cls ∈ lw_good ∧ y.cls ≠ "java/lang/invoke/MethodHandle" ∧ y.cls ≠ "java/lang/invoke/VarHandle" ∧ (parseMethodDescriptor y.desc).map (fun d => d.parameters.length) = some n
/-- a static one -/
def MIs (y : MethodName) (cc : ByteArray) (nL : Nat) (rt : Option FieldType) (n : Nat) : Prop := Cond.code y cc nL rt ∈ lw_good ∧ Cond.static y ∈ lw_good ∧ Cond.initialized y.cls ∈ lw_good ∧ y.cls ≠ "java/lang/invoke/MethodHandle" ∧ y.cls ≠ "java/lang/invoke/VarHandle" ∧ (parseMethodDescriptor y.desc).map (fun d => d.parameters.length) = some n
def RmOK (R rm : Room) (nL : Nat) : Prop := rm.frames + 1 ≤ R.frames ∧ 8 + (nL + 11) + rm.locals ≤ R.locals ∧ rm.cells = 0 ∧ rm.slots = 0
theorem goodM {y : MethodName} {cc : ByteArray} {nL : Nat} {rt : Option FieldType} (h : Cond.code y cc nL rt ∈ lw_good) : GoodIn lw_good (wsM y cc nL rt) := fun w hw => by
  rcases List.mem_cons.mp hw with rfl | hw
  · exact lw_good_in _ h
  · exact lw_good_in _ hw
theorem trs_rev (Z : ZT) (as : List Value) (v : Value) (st : List Value) : trs Z (as.reverse ++ v :: st) = (trs Z as).reverse ++ tr Z v :: trs Z st := by
  simp [trs]
theorem trs_revS (Z : ZT) (as : List Value) (st : List Value) : trs Z (as.reverse ++ st) = (trs Z as).reverse ++ trs Z st := by
  simp [trs]
section SMC
variable {p : Program} {l : Launch} {e : Env} {R : Room} {s : State} {m : MethodId} {args : Array Value} {below : List Frame} {meth : Method} {cd : Code} {H : Heap} {locs : List Loc} {Q : State → Prop} {Z : ZT} {cells slots : Nat} {A0 : Nat → Prop} {H0 : Heap}
/-- behind a call -/
theorem wx_call {pc : Nat} {ls : Array Slot} {st0 rest : List Value} {v : Option Value} {S1 : St} {a : Array Value} (hr : va_Run p l e R s m args below meth cd H locs cells slots 0 0 (F0 m pc ls st0) rest (QX Z v S1 a) (zA Z)) (hS : va_S A0 H0 H locs) (hA : ∀ q, zA Z q → A0 q)
    (kk : ∀ (H1 : Heap) (locs1 : List Loc), Rep Z S1 H1 → va_S A0 H0 H1 locs1 → W p l e R s m args below meth cd H1 locs1 cells slots Q (F0 m (pc + 3) ls (v.toList ++ rest))) : W p l e R s m args below meth cd H locs cells slots Q (F0 m pc ls st0) := by
  intro T hT X
  obtain ⟨v', st₀, t, T', L, h0, X', hL, e1, e2, ⟨⟨hv, hb⟩, hz, hk⟩, st⟩ := hr T hT X
  cases hv
  rw [h0] at hz hk
  obtain ⟨t2, a1, b1⟩ := kk T'.heap (locs ++ L) (by rw [e1]; exact hb)
    ⟨Nat.le_trans hS.1 (by rw [e1]; exact hz), fun q h1 h2 => by rw [e1, hk q (Nat.lt_of_lt_of_le h1 hS.1) (fun z => h2 (hA q z))]; exact hS.2.1 q h1 h2, fun q hq => by
      rcases List.mem_append.mp hq with h | h
      · exact hS.2.2 q h
      · exact hA _ (hL q h)⟩ T' rfl X'
  exact ⟨t2, st t2 a1, b1⟩
theorem FB (Z : ZT) (av : List Value) (S : St) : FrameBlind (va_Pc av (fun U => Rep Z S U.heap ∧ KS Z U)) := fun _ _ _ _ h => ⟨h.1, h.2.1, h.2.2.calling⟩
theorem wx_runV {own : String} {cc : ByteArray} {nL idx n ci nL' : Nat} {y : MethodName} {cc' : ByteArray} {rt' : Option FieldType} {rm : Room} {c : Nat} {As rest : List Value} {S S1 : St} {v : Option Value} {pc : Nat} {ls : Array Slot} {T : u_T} {N : Nat} (hF : CallFix p m cd cc nL s args lw_good own) (hM : MetX Z l y cc' nL' rt' rm (.ref c :: As) S v S1) (hi : MIv y cc' nL' rt' n) (hl : Cond.methodLink own idx y ∈ lw_good) (hR : RmOK R rm nL') (hc : cls7[ci]? = some (y.cls, T, N)) (hk : (kd0 c).1 = ci) (hci : ci < 7) (hn : As.length = n) (hsz : ls.size = nL) (hW : (rest.map fun v => v.category).sum ≤ 8) (hKS : ∀ U : State, U.heap = H → s.WarmedH U.vm → KS Z U) (hK : va_K Z.2.1 cls7 (tyz Z) s) (hP : Rep Z S H) (hd : decode cc pc = .ok (.invokevirtual idx, 3)) (hcs : cells ≤ R.cells ∧ slots ≤ R.slots) :
    va_Run p l e R s m args below meth cd H locs cells slots 0 0 (F0 m pc ls (trs Z (As.reverse ++ .ref c :: rest))) (trs Z rest) (QX Z v S1 (trs Z (.ref c :: As)).toArray) (zA Z) := by
  have hlt : c < 226 := kd_lt (kd_eq hk) (by omega)
  obtain ⟨i1, i2, i3, i4, i5, i6, i7⟩ := hi
  have hcw : CallW R s args own y.cls idx y cc' nL' rt' (wsM y cc' nL' rt') rm 0 0 n :=
    ⟨callB_of n hF.2.2.2.2 (goodM i1) rfl hR.2.2.1 hR.2.2.2 (hF.2.2.2.2 _ i4) (hF.2.2.2.2 _ hl) ⟨i5, i6, i7⟩ ⟨hR.1, hR.2.1⟩, hF.2.2.2.2 _ i2, hF.2.2.2.2 _ i3⟩
  exact va_runV (As := trs Z As) (rest := trs Z rest) (b := Z.1 c) (g := F0 m pc ls (trs Z (As.reverse ++ .ref c :: rest))) hF hM hcw
    ⟨FB Z _ S, va_recv hK hP (ci := ci) (q0 := c) hc (by rw [wsO_at Z S hlt, ent_obj (kd_eq hk) hci]), fun U hU hW => ⟨rfl, by rw [hU]; exact hP, hKS U hU hW⟩⟩ rfl (by simp [trs, hn]) hsz (trs_rev Z As (.ref c) rest) (lv_room (by rw [trs_cat]; exact hW)) hd ⟨hcs.1, hcs.2⟩
theorem wx_runS {own : String} {cc : ByteArray} {nL idx n nL' : Nat} {y : MethodName} {cc' : ByteArray} {rt' : Option FieldType} {rm : Room} {As rest : List Value} {S S1 : St} {v : Option Value} {pc : Nat} {ls : Array Slot} (hF : CallFix p m cd cc nL s args lw_good own) (hM : MetX Z l y cc' nL' rt' rm As S v S1) (hi : MIs y cc' nL' rt' n) (hl : Cond.methodLink own idx y ∈ lw_good) (hR : RmOK R rm nL') (hn : As.length = n) (hsz : ls.size = nL) (hW : (rest.map fun v => v.category).sum ≤ 8) (hKS : ∀ U : State, U.heap = H → s.WarmedH U.vm → KS Z U) (hP : Rep Z S H) (hd : decode cc pc = .ok (.invokestatic idx, 3)) (hcs : cells ≤ R.cells ∧ slots ≤ R.slots) :
    va_Run p l e R s m args below meth cd H locs cells slots 0 0 (F0 m pc ls (trs Z (As.reverse ++ rest))) (trs Z rest) (QX Z v S1 (trs Z As).toArray) (zA Z) := by
  obtain ⟨i1, i2, i4, i5, i6, i7⟩ := hi
  have hcw : CallB R s args own idx y cc' nL' rt' (wsM y cc' nL' rt') rm 0 0 n ∧ (Cond.static y).before args s = true :=
    ⟨callB_of n hF.2.2.2.2 (goodM i1) rfl hR.2.2.1 hR.2.2.2 (hF.2.2.2.2 _ i4) (hF.2.2.2.2 _ hl) ⟨i5, i6, i7⟩ ⟨hR.1, hR.2.1⟩, hF.2.2.2.2 _ i2⟩
  exact va_runS (As := trs Z As) (rest := trs Z rest) (g := F0 m pc ls (trs Z (As.reverse ++ rest))) hF hM hcw
    ⟨FB Z _ S, fun U hU hW => ⟨rfl, by rw [hU]; exact hP, hKS U hU hW⟩⟩ rfl (by simp [trs, hn]) hsz (trs_revS Z As rest) (lv_room (by rw [trs_cat]; exact hW)) hd ⟨hcs.1, hcs.2⟩
/-- of a nest mate -/
theorem wx_runSN {own host : String} {cc : ByteArray} {nL idx n nL' : Nat} {y : MethodName} {cc' : ByteArray} {rt' : Option FieldType} {rm : Room} {As rest : List Value} {S S1 : St} {v : Option Value} {pc : Nat} {ls : Array Slot} (hF : CallFix p m cd cc nL s args lw_good own) (hM : MetX Z l y cc' nL' rt' rm As S v S1) (hi : MIs y cc' nL' rt' n) (hl : va_Nw (.methodLinkNest own idx y host) s) (hR : RmOK R rm nL') (hn : As.length = n) (hsz : ls.size = nL) (hW : (rest.map fun v => v.category).sum ≤ 8) (hKS : ∀ U : State, U.heap = H → s.WarmedH U.vm → KS Z U) (hP : Rep Z S H) (hd : decode cc pc = .ok (.invokestatic idx, 3)) (hcs : cells ≤ R.cells ∧ slots ≤ R.slots) :
    va_Run p l e R s m args below meth cd H locs cells slots 0 0 (F0 m pc ls (trs Z (As.reverse ++ rest))) (trs Z rest) (QX Z v S1 (trs Z As).toArray) (zA Z) := by
  obtain ⟨i1, i2, i4, i5, i6, i7⟩ := hi
  have hcw : va_CN R s args own idx y host cc' nL' rt' (wsM y cc' nL' rt') rm 0 0 n ∧ (Cond.static y).before args s = true ∧ True :=
    ⟨va_cnB n hF.2.2.2.2 (goodM i1) rfl hR.2.2.1 hR.2.2.2 hl (hF.2.2.2.2 _ i4) ⟨i5, i6, i7⟩ ⟨hR.1, hR.2.1⟩, hF.2.2.2.2 _ i2, trivial⟩
  exact va_runSN (As := trs Z As) (rest := trs Z rest) (g := F0 m pc ls (trs Z (As.reverse ++ rest))) hF hM hcw
    ⟨FB Z _ S, fun U hU hW => ⟨rfl, by rw [hU]; exact hP, hKS U hU hW⟩⟩ rfl (by simp [trs, hn]) hsz (trs_revS Z As rest) (lv_room (by rw [trs_cat]; exact hW)) hd ⟨hcs.1, hcs.2⟩
end SMC
section SMK
variable {ρ : Type} {em : ρ → Option Value} {Z : ZT} {R : Room} {own : String} {cc : ByteArray} {nL : Nat} {rt : Option FieldType} {lv : List (Nat × Value)} {st : List Value} {S : St}
theorem sm_callVI {idx n ci nL' : Nat} {y : MethodName} {cc' : ByteArray} {rt' : Option FieldType} {rm : Room} {c : Nat} (As : List Value) {stk : List Value} {o : Option (Int32 × St)} {K : Int32 → St → Option (ρ × St)} {pc : Nat} {T : u_T} {N : Nat} (hM : ∀ l r S1, o = some (r, S1) → MetX Z l y cc' nL' rt' rm (.ref c :: As) S (eI r) S1) (hd : decode cc pc = .ok (.invokevirtual idx, 3)) (hi : MIv y cc' nL' rt' n) (hlk : Cond.methodLink own idx y ∈ lw_good) (hR : RmOK R rm nL') (hc : cls7[ci]? = some (y.cls, T, N)) (hci : ci < 7) (hn : As.length = n) (hW : (st.map fun v => v.category).sum ≤ 8) (hst : stk = As.reverse ++ .ref c :: st) (k : ∀ r S1, Sim em Z R own cc nL rt (pc + 3) lv (.int r :: st) S1 (K r S1)) : Sim em Z R own cc nL rt pc lv stk S (gk c ci (cl o K)) := by
  intro p l e s m args below meth cd hC r S' ho ls H locs hl hP hS
  unfold gk at ho
  split at ho
  · next hk =>
    cases hoo : o with
    | none => rw [hoo] at ho; cases ho
    | some q =>
      obtain ⟨r1, S1⟩ := q
      rw [hoo] at ho
      subst hst
      refine wx_call (wx_runV (own := own) (cc := cc) (nL := nL) ⟨hC.1, hC.2.1, hC.2.2.1, hC.2.2.2.1, hC.2.2.2.2.1⟩ (hM l r1 S1 hoo) hi hlk hR hc hk hci hn hl.1 hW (fun U hU hW => hC.2.2.2.2.2.1.goes hS hU hW) hC.2.2.2.2.2.1.1 hP hd ⟨Nat.zero_le _, Nat.zero_le _⟩) hS (fun _ h => h) (fun H1 locs1 hP1 hS1 => ?_)
      exact k r1 S1 p l e s m args below meth cd hC r S' ho ls H1 locs1 hl hP1 hS1
  · cases ho
theorem sm_callSI {idx n nL' : Nat} {y : MethodName} {cc' : ByteArray} {rt' : Option FieldType} {rm : Room} (As : List Value) {stk : List Value} {o : Option (Int32 × St)} {K : Int32 → St → Option (ρ × St)} {pc : Nat} (hM : ∀ l r S1, o = some (r, S1) → MetX Z l y cc' nL' rt' rm As S (eI r) S1) (hd : decode cc pc = .ok (.invokestatic idx, 3)) (hi : MIs y cc' nL' rt' n) (hlk : Cond.methodLink own idx y ∈ lw_good) (hR : RmOK R rm nL') (hn : As.length = n) (hW : (st.map fun v => v.category).sum ≤ 8) (hst : stk = As.reverse ++ st) (k : ∀ r S1, Sim em Z R own cc nL rt (pc + 3) lv (.int r :: st) S1 (K r S1)) : Sim em Z R own cc nL rt pc lv stk S (cl o K) := by
  intro p l e s m args below meth cd hC r S' ho ls H locs hl hP hS
  cases hoo : o with
  | none => rw [hoo] at ho; cases ho
  | some q =>
    obtain ⟨r1, S1⟩ := q
    rw [hoo] at ho
    subst hst
    refine wx_call (wx_runS (own := own) (cc := cc) (nL := nL) ⟨hC.1, hC.2.1, hC.2.2.1, hC.2.2.2.1, hC.2.2.2.2.1⟩ (hM l r1 S1 hoo) hi hlk hR hn hl.1 hW (fun U hU hW => hC.2.2.2.2.2.1.goes hS hU hW) hP hd ⟨Nat.zero_le _, Nat.zero_le _⟩) hS (fun _ h => h) (fun H1 locs1 hP1 hS1 => ?_)
    exact k r1 S1 p l e s m args below meth cd hC r S' ho ls H1 locs1 hl hP1 hS1
theorem sm_callVL {idx n ci nL' : Nat} {y : MethodName} {cc' : ByteArray} {rt' : Option FieldType} {rm : Room} {c : Nat} (As : List Value) {stk : List Value} {o : Option (Int64 × St)} {K : Int64 → St → Option (ρ × St)} {pc : Nat} {T : u_T} {N : Nat} (hM : ∀ l r S1, o = some (r, S1) → MetX Z l y cc' nL' rt' rm (.ref c :: As) S (eL r) S1) (hd : decode cc pc = .ok (.invokevirtual idx, 3)) (hi : MIv y cc' nL' rt' n) (hlk : Cond.methodLink own idx y ∈ lw_good) (hR : RmOK R rm nL') (hc : cls7[ci]? = some (y.cls, T, N)) (hci : ci < 7) (hn : As.length = n) (hW : (st.map fun v => v.category).sum ≤ 8) (hst : stk = As.reverse ++ .ref c :: st) (k : ∀ r S1, Sim em Z R own cc nL rt (pc + 3) lv (.long r :: st) S1 (K r S1)) : Sim em Z R own cc nL rt pc lv stk S (gk c ci (cl o K)) := by
  intro p l e s m args below meth cd hC r S' ho ls H locs hl hP hS
  unfold gk at ho
  split at ho
  · next hk =>
    cases hoo : o with
    | none => rw [hoo] at ho; cases ho
    | some q =>
      obtain ⟨r1, S1⟩ := q
      rw [hoo] at ho
      subst hst
      refine wx_call (wx_runV (own := own) (cc := cc) (nL := nL) ⟨hC.1, hC.2.1, hC.2.2.1, hC.2.2.2.1, hC.2.2.2.2.1⟩ (hM l r1 S1 hoo) hi hlk hR hc hk hci hn hl.1 hW (fun U hU hW => hC.2.2.2.2.2.1.goes hS hU hW) hC.2.2.2.2.2.1.1 hP hd ⟨Nat.zero_le _, Nat.zero_le _⟩) hS (fun _ h => h) (fun H1 locs1 hP1 hS1 => ?_)
      exact k r1 S1 p l e s m args below meth cd hC r S' ho ls H1 locs1 hl hP1 hS1
  · cases ho
theorem sm_callSL {idx n nL' : Nat} {y : MethodName} {cc' : ByteArray} {rt' : Option FieldType} {rm : Room} (As : List Value) {stk : List Value} {o : Option (Int64 × St)} {K : Int64 → St → Option (ρ × St)} {pc : Nat} (hM : ∀ l r S1, o = some (r, S1) → MetX Z l y cc' nL' rt' rm As S (eL r) S1) (hd : decode cc pc = .ok (.invokestatic idx, 3)) (hi : MIs y cc' nL' rt' n) (hlk : Cond.methodLink own idx y ∈ lw_good) (hR : RmOK R rm nL') (hn : As.length = n) (hW : (st.map fun v => v.category).sum ≤ 8) (hst : stk = As.reverse ++ st) (k : ∀ r S1, Sim em Z R own cc nL rt (pc + 3) lv (.long r :: st) S1 (K r S1)) : Sim em Z R own cc nL rt pc lv stk S (cl o K) := by
  intro p l e s m args below meth cd hC r S' ho ls H locs hl hP hS
  cases hoo : o with
  | none => rw [hoo] at ho; cases ho
  | some q =>
    obtain ⟨r1, S1⟩ := q
    rw [hoo] at ho
    subst hst
    refine wx_call (wx_runS (own := own) (cc := cc) (nL := nL) ⟨hC.1, hC.2.1, hC.2.2.1, hC.2.2.2.1, hC.2.2.2.2.1⟩ (hM l r1 S1 hoo) hi hlk hR hn hl.1 hW (fun U hU hW => hC.2.2.2.2.2.1.goes hS hU hW) hP hd ⟨Nat.zero_le _, Nat.zero_le _⟩) hS (fun _ h => h) (fun H1 locs1 hP1 hS1 => ?_)
    exact k r1 S1 p l e s m args below meth cd hC r S' ho ls H1 locs1 hl hP1 hS1
theorem sm_callVD {idx n ci nL' : Nat} {y : MethodName} {cc' : ByteArray} {rt' : Option FieldType} {rm : Room} {c : Nat} (As : List Value) {stk : List Value} {o : Option (UInt64 × St)} {K : UInt64 → St → Option (ρ × St)} {pc : Nat} {T : u_T} {N : Nat} (hM : ∀ l r S1, o = some (r, S1) → MetX Z l y cc' nL' rt' rm (.ref c :: As) S (eD r) S1) (hd : decode cc pc = .ok (.invokevirtual idx, 3)) (hi : MIv y cc' nL' rt' n) (hlk : Cond.methodLink own idx y ∈ lw_good) (hR : RmOK R rm nL') (hc : cls7[ci]? = some (y.cls, T, N)) (hci : ci < 7) (hn : As.length = n) (hW : (st.map fun v => v.category).sum ≤ 8) (hst : stk = As.reverse ++ .ref c :: st) (k : ∀ r S1, Sim em Z R own cc nL rt (pc + 3) lv (.double r :: st) S1 (K r S1)) : Sim em Z R own cc nL rt pc lv stk S (gk c ci (cl o K)) := by
  intro p l e s m args below meth cd hC r S' ho ls H locs hl hP hS
  unfold gk at ho
  split at ho
  · next hk =>
    cases hoo : o with
    | none => rw [hoo] at ho; cases ho
    | some q =>
      obtain ⟨r1, S1⟩ := q
      rw [hoo] at ho
      subst hst
      refine wx_call (wx_runV (own := own) (cc := cc) (nL := nL) ⟨hC.1, hC.2.1, hC.2.2.1, hC.2.2.2.1, hC.2.2.2.2.1⟩ (hM l r1 S1 hoo) hi hlk hR hc hk hci hn hl.1 hW (fun U hU hW => hC.2.2.2.2.2.1.goes hS hU hW) hC.2.2.2.2.2.1.1 hP hd ⟨Nat.zero_le _, Nat.zero_le _⟩) hS (fun _ h => h) (fun H1 locs1 hP1 hS1 => ?_)
      exact k r1 S1 p l e s m args below meth cd hC r S' ho ls H1 locs1 hl hP1 hS1
  · cases ho
theorem sm_callSD {idx n nL' : Nat} {y : MethodName} {cc' : ByteArray} {rt' : Option FieldType} {rm : Room} (As : List Value) {stk : List Value} {o : Option (UInt64 × St)} {K : UInt64 → St → Option (ρ × St)} {pc : Nat} (hM : ∀ l r S1, o = some (r, S1) → MetX Z l y cc' nL' rt' rm As S (eD r) S1) (hd : decode cc pc = .ok (.invokestatic idx, 3)) (hi : MIs y cc' nL' rt' n) (hlk : Cond.methodLink own idx y ∈ lw_good) (hR : RmOK R rm nL') (hn : As.length = n) (hW : (st.map fun v => v.category).sum ≤ 8) (hst : stk = As.reverse ++ st) (k : ∀ r S1, Sim em Z R own cc nL rt (pc + 3) lv (.double r :: st) S1 (K r S1)) : Sim em Z R own cc nL rt pc lv stk S (cl o K) := by
  intro p l e s m args below meth cd hC r S' ho ls H locs hl hP hS
  cases hoo : o with
  | none => rw [hoo] at ho; cases ho
  | some q =>
    obtain ⟨r1, S1⟩ := q
    rw [hoo] at ho
    subst hst
    refine wx_call (wx_runS (own := own) (cc := cc) (nL := nL) ⟨hC.1, hC.2.1, hC.2.2.1, hC.2.2.2.1, hC.2.2.2.2.1⟩ (hM l r1 S1 hoo) hi hlk hR hn hl.1 hW (fun U hU hW => hC.2.2.2.2.2.1.goes hS hU hW) hP hd ⟨Nat.zero_le _, Nat.zero_le _⟩) hS (fun _ h => h) (fun H1 locs1 hP1 hS1 => ?_)
    exact k r1 S1 p l e s m args below meth cd hC r S' ho ls H1 locs1 hl hP1 hS1
theorem sm_callVV {idx n ci nL' : Nat} {y : MethodName} {cc' : ByteArray} {rt' : Option FieldType} {rm : Room} {c : Nat} (As : List Value) {stk : List Value} {o : Option (Unit × St)} {K : Unit → St → Option (ρ × St)} {pc : Nat} {T : u_T} {N : Nat} (hM : ∀ l r S1, o = some (r, S1) → MetX Z l y cc' nL' rt' rm (.ref c :: As) S (eV r) S1) (hd : decode cc pc = .ok (.invokevirtual idx, 3)) (hi : MIv y cc' nL' rt' n) (hlk : Cond.methodLink own idx y ∈ lw_good) (hR : RmOK R rm nL') (hc : cls7[ci]? = some (y.cls, T, N)) (hci : ci < 7) (hn : As.length = n) (hW : (st.map fun v => v.category).sum ≤ 8) (hst : stk = As.reverse ++ .ref c :: st) (k : ∀ r S1, Sim em Z R own cc nL rt (pc + 3) lv (st) S1 (K r S1)) : Sim em Z R own cc nL rt pc lv stk S (gk c ci (cl o K)) := by
  intro p l e s m args below meth cd hC r S' ho ls H locs hl hP hS
  unfold gk at ho
  split at ho
  · next hk =>
    cases hoo : o with
    | none => rw [hoo] at ho; cases ho
    | some q =>
      obtain ⟨r1, S1⟩ := q
      rw [hoo] at ho
      subst hst
      refine wx_call (wx_runV (own := own) (cc := cc) (nL := nL) ⟨hC.1, hC.2.1, hC.2.2.1, hC.2.2.2.1, hC.2.2.2.2.1⟩ (hM l r1 S1 hoo) hi hlk hR hc hk hci hn hl.1 hW (fun U hU hW => hC.2.2.2.2.2.1.goes hS hU hW) hC.2.2.2.2.2.1.1 hP hd ⟨Nat.zero_le _, Nat.zero_le _⟩) hS (fun _ h => h) (fun H1 locs1 hP1 hS1 => ?_)
      exact k r1 S1 p l e s m args below meth cd hC r S' ho ls H1 locs1 hl hP1 hS1
  · cases ho
theorem sm_callSV {idx n nL' : Nat} {y : MethodName} {cc' : ByteArray} {rt' : Option FieldType} {rm : Room} (As : List Value) {stk : List Value} {o : Option (Unit × St)} {K : Unit → St → Option (ρ × St)} {pc : Nat} (hM : ∀ l r S1, o = some (r, S1) → MetX Z l y cc' nL' rt' rm As S (eV r) S1) (hd : decode cc pc = .ok (.invokestatic idx, 3)) (hi : MIs y cc' nL' rt' n) (hlk : Cond.methodLink own idx y ∈ lw_good) (hR : RmOK R rm nL') (hn : As.length = n) (hW : (st.map fun v => v.category).sum ≤ 8) (hst : stk = As.reverse ++ st) (k : ∀ r S1, Sim em Z R own cc nL rt (pc + 3) lv (st) S1 (K r S1)) : Sim em Z R own cc nL rt pc lv stk S (cl o K) := by
  intro p l e s m args below meth cd hC r S' ho ls H locs hl hP hS
  cases hoo : o with
  | none => rw [hoo] at ho; cases ho
  | some q =>
    obtain ⟨r1, S1⟩ := q
    rw [hoo] at ho
    subst hst
    refine wx_call (wx_runS (own := own) (cc := cc) (nL := nL) ⟨hC.1, hC.2.1, hC.2.2.1, hC.2.2.2.1, hC.2.2.2.2.1⟩ (hM l r1 S1 hoo) hi hlk hR hn hl.1 hW (fun U hU hW => hC.2.2.2.2.2.1.goes hS hU hW) hP hd ⟨Nat.zero_le _, Nat.zero_le _⟩) hS (fun _ h => h) (fun H1 locs1 hP1 hS1 => ?_)
    exact k r1 S1 p l e s m args below meth cd hC r S' ho ls H1 locs1 hl hP1 hS1
theorem sm_callNI {idx n nL' : Nat} {y : MethodName} {cc' : ByteArray} {rt' : Option FieldType} {rm : Room} (As : List Value) {stk : List Value} {o : Option (Int32 × St)} {K : Int32 → St → Option (ρ × St)} {pc : Nat} (hM : ∀ l r S1, o = some (r, S1) → MetX Z l y cc' nL' rt' rm As S (eI r) S1) (hd : decode cc pc = .ok (.invokestatic idx, 3)) (hi : MIs y cc' nL' rt' n) (hlk : ∀ s : State, KS Z s → va_Nw (.methodLinkNest own idx y "LoanBook") s) (hR : RmOK R rm nL') (hn : As.length = n) (hW : (st.map fun v => v.category).sum ≤ 8) (hst : stk = As.reverse ++ st) (k : ∀ r S1, Sim em Z R own cc nL rt (pc + 3) lv (.int r :: st) S1 (K r S1)) : Sim em Z R own cc nL rt pc lv stk S (cl o K) := by
  intro p l e s m args below meth cd hC r S' ho ls H locs hl hP hS
  cases hoo : o with
  | none => rw [hoo] at ho; cases ho
  | some q =>
    obtain ⟨r1, S1⟩ := q
    rw [hoo] at ho
    subst hst
    refine wx_call (wx_runSN (own := own) (cc := cc) (nL := nL) ⟨hC.1, hC.2.1, hC.2.2.1, hC.2.2.2.1, hC.2.2.2.2.1⟩ (hM l r1 S1 hoo) hi (hlk s hC.2.2.2.2.2.1) hR hn hl.1 hW (fun U hU hW => hC.2.2.2.2.2.1.goes hS hU hW) hP hd ⟨Nat.zero_le _, Nat.zero_le _⟩) hS (fun _ h => h) (fun H1 locs1 hP1 hS1 => ?_)
    exact k r1 S1 p l e s m args below meth cd hC r S' ho ls H1 locs1 hl hP1 hS1
theorem sm_retI {v : Int32} {pc : Nat} (hd : decode cc pc = .ok (.ireturn, 1)) : Sim eI Z R own cc nL (some .int) pc lv [.int v] S (some (v, S)) := by
  intro p l e s m args below meth cd hC r S' ho ls H locs hl hP hS
  cases ho
  exact W.iret hC.1 hC.2.1 hC.2.2.2.2.2.2.1 (fun t ht hW => ⟨⟨rfl, by rw [ht]; exact hP⟩, hS.F ht⟩) hS.2.2 hd hC.2.2.2.2.2.2.2
theorem sm_retL {v : Int64} {pc : Nat} (hd : decode cc pc = .ok (.lreturn, 1)) : Sim eL Z R own cc nL (some .long) pc lv [.long v] S (some (v, S)) := by
  intro p l e s m args below meth cd hC r S' ho ls H locs hl hP hS
  cases ho
  exact W.lret hC.1 hC.2.1 hC.2.2.2.2.2.2.1 (fun t ht hW => ⟨⟨rfl, by rw [ht]; exact hP⟩, hS.F ht⟩) hS.2.2 hd hC.2.2.2.2.2.2.2
theorem sm_retD {v : UInt64} {pc : Nat} (hd : decode cc pc = .ok (.dreturn, 1)) : Sim eD Z R own cc nL (some .double) pc lv [.double v] S (some (v, S)) := by
  intro p l e s m args below meth cd hC r S' ho ls H locs hl hP hS
  cases ho
  exact W.dret hC.1 hC.2.1 hC.2.2.2.2.2.2.1 (fun t ht hW => ⟨⟨rfl, by rw [ht]; exact hP⟩, hS.F ht⟩) hS.2.2 hd hC.2.2.2.2.2.2.2
theorem sm_retZ {v : Int32} {pc : Nat} (hd : decode cc pc = .ok (.ireturn, 1)) : Sim eI Z R own cc nL (some .boolean) pc lv [.int v] S (zr v S) := by
  intro p l e s m args below meth cd hC r S' ho ls H locs hl hP hS
  unfold zr at ho
  split at ho
  · next hv =>
    cases ho
    exact W.zret hC.1 hC.2.1 hC.2.2.2.2.2.2.1 (by rcases hv with h | h <;> subst h <;> rfl) (fun t ht hW => ⟨⟨rfl, by rw [ht]; exact hP⟩, hS.F ht⟩) hS.2.2 hd hC.2.2.2.2.2.2.2
  · cases ho
theorem sm_retV {pc : Nat} (hd : decode cc pc = .ok (.return_, 1)) : Sim eV Z R own cc nL none pc lv [] S (some ((), S)) := by
  intro p l e s m args below meth cd hC r S' ho ls H locs hl hP hS
  cases ho
  exact W.vret hC.1 hC.2.1 hC.2.2.2.2.2.2.1 (fun t ht hW => ⟨⟨rfl, by rw [ht]; exact hP⟩, hS.F ht⟩) hS.2.2 hd hC.2.2.2.2.2.2.2
theorem sm_raw {b : UInt64} {o : Option (ρ × St)} {idx pc : Nat} (hd : decode cc pc = .ok (.invokestatic idx, 3)) (h1 : Cond.methodLink own idx ⟨"java/lang/Double", "doubleToRawLongBits", "(D)J"⟩ ∈ lw_good) (h2 : Cond.native ⟨"java/lang/Double", "doubleToRawLongBits", "(D)J"⟩ ∈ lw_good) (h3 : Cond.static ⟨"java/lang/Double", "doubleToRawLongBits", "(D)J"⟩ ∈ lw_good) (h4 : Cond.initialized "java/lang/Double" ∈ lw_good) (hR : 1 ≤ R.frames ∧ (st.map fun v => v.category).sum + 15 ≤ R.locals) (k : Sim em Z R own cc nL rt (pc + 3) lv (.long b.toInt64 :: st) S o) : Sim em Z R own cc nL rt pc lv (.double b :: st) S o := by
  intro p l e s m args below meth cd hC r S' ho ls H locs hl hP hS
  exact vn_d2l hC.1 hC.2.1 (hC.2.2.1.trans hl.1.symm) hC.2.2.2.1 (hC.2.2.2.2.1 _ h1) (hC.2.2.2.2.1 _ h2) (hC.2.2.2.2.1 _ h3) (hC.2.2.2.2.1 _ h4) hR.1 (by show ((trs Z st).map _).sum + 15 ≤ _; rw [trs_cat]; exact hR.2) hd (k p l e s m args below meth cd hC r S' ho ls H locs hl hP hS)
theorem sm_rawf {b : UInt32} {o : Option (ρ × St)} {idx pc : Nat} (hd : decode cc pc = .ok (.invokestatic idx, 3)) (h1 : Cond.methodLink own idx ⟨"java/lang/Float", "floatToRawIntBits", "(F)I"⟩ ∈ lw_good) (h2 : Cond.native ⟨"java/lang/Float", "floatToRawIntBits", "(F)I"⟩ ∈ lw_good) (h3 : Cond.static ⟨"java/lang/Float", "floatToRawIntBits", "(F)I"⟩ ∈ lw_good) (h4 : Cond.initialized "java/lang/Float" ∈ lw_good) (hR : 1 ≤ R.frames ∧ (st.map fun v => v.category).sum + 15 ≤ R.locals) (k : Sim em Z R own cc nL rt (pc + 3) lv (.int b.toInt32 :: st) S o) : Sim em Z R own cc nL rt pc lv (.float b :: st) S o := by
  intro p l e s m args below meth cd hC r S' ho ls H locs hl hP hS
  exact vn_f2i hC.1 hC.2.1 (hC.2.2.1.trans hl.1.symm) hC.2.2.2.1 (hC.2.2.2.2.1 _ h1) (hC.2.2.2.2.1 _ h2) (hC.2.2.2.2.1 _ h3) (hC.2.2.2.2.1 _ h4) hR.1 (by have h9 := hR.2; rw [← trs_cat Z] at h9; simp only [trs] at h9 ⊢; omega) hd (k p l e s m args below meth cd hC r S' ho ls H locs hl hP hS)
theorem sm_bits {b : Int64} {o : Option (ρ × St)} {idx pc : Nat} (hd : decode cc pc = .ok (.invokestatic idx, 3)) (h1 : Cond.methodLink own idx ⟨"java/lang/Double", "longBitsToDouble", "(J)D"⟩ ∈ lw_good) (h2 : Cond.native ⟨"java/lang/Double", "longBitsToDouble", "(J)D"⟩ ∈ lw_good) (h3 : Cond.static ⟨"java/lang/Double", "longBitsToDouble", "(J)D"⟩ ∈ lw_good) (h4 : Cond.initialized "java/lang/Double" ∈ lw_good) (hR : 1 ≤ R.frames ∧ (st.map fun v => v.category).sum + 15 ≤ R.locals) (k : Sim em Z R own cc nL rt (pc + 3) lv (.double b.toUInt64 :: st) S o) : Sim em Z R own cc nL rt pc lv (.long b :: st) S (if vn_snl2d b = false then o else none) := by
  intro p l e s m args below meth cd hC r S' ho ls H locs hl hP hS
  split at ho
  · next hv => exact vn_l2d hC.1 hC.2.1 (hC.2.2.1.trans hl.1.symm) hC.2.2.2.1 (hC.2.2.2.2.1 _ h1) (hC.2.2.2.2.1 _ h2) (hC.2.2.2.2.1 _ h3) (hC.2.2.2.2.1 _ h4) hv hR.1 (by show ((trs Z st).map _).sum + 15 ≤ _; rw [trs_cat]; exact hR.2) hd (k p l e s m args below meth cd hC r S' ho ls H locs hl hP hS)
  · cases ho
theorem cpy0 {α : Type} (f g : Nat → α) (n : Nat) : va_cpy f g 0 0 n = fun j => if j < n then f j else g j := by
  funext j
  simp [va_cpy]
def acZ {β : Type} (a b : Nat) (n : Int32) (S : St) (K : St → Option β) : Option β := if ((kd0 a).1 = 12 ∧ (kd0 b).1 = 12 ∧ 0 ≤ n.toInt ∧ n.toNatClampNeg ≤ (kd0 a).2 ∧ n.toNatClampNeg ≤ (kd0 b).2) ∧ ∀ j, j < n.toNatClampNeg → fits .boolean (.int (S.1 a j)) = true then K (rowI S b (fun j => if j < n.toNatClampNeg then S.1 a j else S.1 b j)) else none
theorem ge0_nlt {n : Int32} (h : 0 ≤ n.toInt) : ¬ n < 0 := fun q => by
  rw [Int32.lt_iff_toInt_lt, Int32.toInt_zero] at q
  omega
theorem sm_acI {a b pc idx : Nat} {n : Int32} {K : St → Option (ρ × St)} (hd : decode cc pc = .ok (.invokestatic idx, 3)) (h1 : Cond.methodLink own idx arraycopyName ∈ lw_good) (h2 : Cond.native arraycopyName ∈ lw_good) (h3 : Cond.static arraycopyName ∈ lw_good) (h4 : Cond.initialized "java/lang/System" ∈ lw_good) (hR : 1 ≤ R.frames ∧ (st.map fun v => v.category).sum + (nativeFrameWords "java/lang/System" "arraycopy" 5 + 11) ≤ R.locals) (k : ∀ S1, Sim em Z R own cc nL rt (pc + 3) lv st S1 (K S1)) : Sim em Z R own cc nL rt pc lv (.int n :: .int 0 :: .ref b :: .int 0 :: .ref a :: st) S (acI 10 a b n S K) := by
  intro p l e s m args below meth cd hC r S' ho ls H locs hl hP hS
  unfold acI at ho
  split at ho
  · next hk =>
    have hla : a < 226 := kd_lt (kd_eq hk.1) (by omega)
    have hlb : b < 226 := kd_lt (kd_eq hk.2.1) (by omega)
    have hD := zD hC.2.2.2.2.2.1 S
    refine va_copyi (D := Z.2.1) (ty := .int) hC.1 hC.2.1 (hC.2.2.1.trans hl.1.symm) hC.2.2.2.1 (hC.2.2.2.2.1 _ h1) (hC.2.2.2.2.1 _ h2) (hC.2.2.2.2.1 _ h3) (hC.2.2.2.2.1 _ h4) hC.2.2.2.2.2.1.1 hP hD hS a b 0 0 (by rw [wsO_at Z S hla, ent_I (kd_eq hk.1)]) (by rw [wsO_at Z S hlb, ent_I (kd_eq hk.2.1)]) rfl rfl rfl (by decide) (by decide) (ge0_nlt hk.2.2.1) (by rw [show (0 : Int32).toNatClampNeg = 0 from rfl, Nat.zero_add]; exact hk.2.2.2.1) (by rw [show (0 : Int32).toNatClampNeg = 0 from rfl, Nat.zero_add]; exact hk.2.2.2.2) (fun _ _ => rfl) hR.1 (by show ((trs Z st).map _).sum + _ ≤ _; rw [trs_cat]; exact hR.2) hd (fun H1 locs1 hP1 hD1 hS1 => ?_)
    rw [show (0 : Int32).toNatClampNeg = 0 from rfl, cpy0, wsO_set (offc_rowI S b (fun j => if j < n.toNatClampNeg then S.1 a j else S.1 b j)) (by rw [ent_I (kd_eq hk.2.1)]; simp [rowI])] at hP1
    exact k _ p l e s m args below meth cd hC r S' ho ls H1 locs1 hl hP1 hS1
  · cases ho
theorem sm_acJ {a b pc idx : Nat} {n : Int32} {K : St → Option (ρ × St)} (hd : decode cc pc = .ok (.invokestatic idx, 3)) (h1 : Cond.methodLink own idx arraycopyName ∈ lw_good) (h2 : Cond.native arraycopyName ∈ lw_good) (h3 : Cond.static arraycopyName ∈ lw_good) (h4 : Cond.initialized "java/lang/System" ∈ lw_good) (hR : 1 ≤ R.frames ∧ (st.map fun v => v.category).sum + (nativeFrameWords "java/lang/System" "arraycopy" 5 + 11) ≤ R.locals) (k : ∀ S1, Sim em Z R own cc nL rt (pc + 3) lv st S1 (K S1)) : Sim em Z R own cc nL rt pc lv (.int n :: .int 0 :: .ref b :: .int 0 :: .ref a :: st) S (acJ a b n S K) := by
  intro p l e s m args below meth cd hC r S' ho ls H locs hl hP hS
  unfold acJ at ho
  split at ho
  · next hk =>
    have hla : a < 226 := kd_lt (kd_eq hk.1) (by omega)
    have hlb : b < 226 := kd_lt (kd_eq hk.2.1) (by omega)
    have hD := zD hC.2.2.2.2.2.1 S
    refine va_copyl (D := Z.2.1) (ty := .long) hC.1 hC.2.1 (hC.2.2.1.trans hl.1.symm) hC.2.2.2.1 (hC.2.2.2.2.1 _ h1) (hC.2.2.2.2.1 _ h2) (hC.2.2.2.2.1 _ h3) (hC.2.2.2.2.1 _ h4) hC.2.2.2.2.2.1.1 hP hD hS a b 1 1 (by rw [wsO_at Z S hla, ent_J (kd_eq hk.1)]) (by rw [wsO_at Z S hlb, ent_J (kd_eq hk.2.1)]) rfl rfl rfl (by decide) (by decide) (ge0_nlt hk.2.2.1) (by rw [show (0 : Int32).toNatClampNeg = 0 from rfl, Nat.zero_add]; exact hk.2.2.2.1) (by rw [show (0 : Int32).toNatClampNeg = 0 from rfl, Nat.zero_add]; exact hk.2.2.2.2) (fun _ _ => rfl) hR.1 (by show ((trs Z st).map _).sum + _ ≤ _; rw [trs_cat]; exact hR.2) hd (fun H1 locs1 hP1 hD1 hS1 => ?_)
    rw [show (0 : Int32).toNatClampNeg = 0 from rfl, cpy0, wsO_set (offc_rowL S b (fun j => if j < n.toNatClampNeg then S.2 a j else S.2 b j)) (by rw [ent_J (kd_eq hk.2.1)]; simp [rowL])] at hP1
    exact k _ p l e s m args below meth cd hC r S' ho ls H1 locs1 hl hP1 hS1
  · cases ho
theorem sm_acZ {a b pc idx : Nat} {n : Int32} {K : St → Option (ρ × St)} (hd : decode cc pc = .ok (.invokestatic idx, 3)) (h1 : Cond.methodLink own idx arraycopyName ∈ lw_good) (h2 : Cond.native arraycopyName ∈ lw_good) (h3 : Cond.static arraycopyName ∈ lw_good) (h4 : Cond.initialized "java/lang/System" ∈ lw_good) (hR : 1 ≤ R.frames ∧ (st.map fun v => v.category).sum + (nativeFrameWords "java/lang/System" "arraycopy" 5 + 11) ≤ R.locals) (k : ∀ S1, Sim em Z R own cc nL rt (pc + 3) lv st S1 (K S1)) : Sim em Z R own cc nL rt pc lv (.int n :: .int 0 :: .ref b :: .int 0 :: .ref a :: st) S (acZ a b n S K) := by
  intro p l e s m args below meth cd hC r S' ho ls H locs hl hP hS
  unfold acZ at ho
  split at ho
  · next hk =>
    have hla : a < 226 := kd_lt (kd_eq hk.1.1) (by omega)
    have hlb : b < 226 := kd_lt (kd_eq hk.1.2.1) (by omega)
    have hD := zD hC.2.2.2.2.2.1 S
    refine va_copyi (D := Z.2.1) (ty := .boolean) hC.1 hC.2.1 (hC.2.2.1.trans hl.1.symm) hC.2.2.2.1 (hC.2.2.2.2.1 _ h1) (hC.2.2.2.2.1 _ h2) (hC.2.2.2.2.1 _ h3) (hC.2.2.2.2.1 _ h4) hC.2.2.2.2.2.1.1 hP hD hS a b 2 2 (by rw [wsO_at Z S hla, ent_Z (kd_eq hk.1.1)]) (by rw [wsO_at Z S hlb, ent_Z (kd_eq hk.1.2.1)]) rfl rfl rfl (by decide) (by decide) (ge0_nlt hk.1.2.2.1) (by rw [show (0 : Int32).toNatClampNeg = 0 from rfl, Nat.zero_add]; exact hk.1.2.2.2.1) (by rw [show (0 : Int32).toNatClampNeg = 0 from rfl, Nat.zero_add]; exact hk.1.2.2.2.2) (fun i hi => by rw [show (0 : Int32).toNatClampNeg + i = i from Nat.zero_add i]; exact hk.2 i hi) hR.1 (by show ((trs Z st).map _).sum + _ ≤ _; rw [trs_cat]; exact hR.2) hd (fun H1 locs1 hP1 hD1 hS1 => ?_)
    rw [show (0 : Int32).toNatClampNeg = 0 from rfl, cpy0, wsO_set (offc_rowI S b (fun j => if j < n.toNatClampNeg then S.1 a j else S.1 b j)) (by rw [ent_Z (kd_eq hk.1.2.1)]; simp [rowI])] at hP1
    exact k _ p l e s m args below meth cd hC r S' ho ls H1 locs1 hl hP1 hS1
  · cases ho
theorem trs_args (Z : ZT) : ∀ (av : List Value) (i : Nat), lv_args i (trs Z av) = trl Z (lv_args i av)
  | [], _ => rfl
  | v :: vs, i => by
    show (i, tr Z v) :: lv_args _ (trs Z vs) = trl Z ((i, v) :: lv_args _ vs)
    rw [tr_cat, trs_args Z vs]
    rfl
theorem Sim.met {o : Option (ρ × St)} {y : MethodName} {rm : Room} {av : List Value} {lv0 : List (Nat × Value)} (hy : plainName y.cls = true) (hlv : lv_args 0 av = lv0) (hlen : (lg_sl (trs Z av)).length ≤ nL) (h : Sim em Z rm y.cls cc nL rt 0 lv0 [] S o) (l : Launch) {r : ρ} {S' : St} (ho : o = some (r, S')) : MetX Z l y cc nL rt rm av S (em r) S' := by
  refine Met.ofW (cc := cc) (maxL := nL) (ret := rt) hy rfl ?_
  intro p e s m args below meth c s₁ B hml hv
  obtain ⟨rfl, hP, hK⟩ := hv
  have hts := atoms_spec (ws := wsM y cc nL rt) B.pre
  have hL := lv_entry (trs Z av) (n := nL) hlen
  rw [trs_args, hlv] at hL
  rw [lg_entry_eq]
  exact h p l e s m _ below meth c ⟨B.exec, B.bytes, hml, findClass_of_methodNamed B.named, fun w hw => hts w (List.mem_cons_of_mem _ hw), hK, B.returns, B.notSynchronized⟩ r S' ho _ s.heap [] hL hP va_S.rf
end SMK
end
