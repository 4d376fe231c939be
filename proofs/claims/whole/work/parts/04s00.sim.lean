set_option maxRecDepth 20000 in
set_option maxHeartbeats 4000000 in
theorem sJ_X0_isRateOfPeriod_27 (Z : ZT)   (t0 : Int32) (S : St) : Sim eI Z rm_X0_isRateOfPeriod RX0 cX0_isRateOfPeriod 2 (some .boolean) 27 [] [.int t0] S (J_X0_isRateOfPeriod_27  t0 S) := by
  unfold J_X0_isRateOfPeriod_27
  exact sm_retZ (pc := 27) dX0_isRateOfPeriod_27
set_option maxRecDepth 20000 in
set_option maxHeartbeats 4000000 in
theorem sJ_X0_isRateOfPeriod_22 (Z : ZT)    (S : St) : Sim eI Z rm_X0_isRateOfPeriod RX0 cX0_isRateOfPeriod 2 (some .boolean) 22 [] [] S (J_X0_isRateOfPeriod_22  S) := by
  unfold J_X0_isRateOfPeriod_22
  refine sm_iconst (pc := 22) (1 : Int32) dX0_isRateOfPeriod_22 (by decide) ?_
  refine sm_goto 27 (pc := 23) dX0_isRateOfPeriod_23 rfl ?_
  refine sm_sub [] rfl ?_
  exact sJ_X0_isRateOfPeriod_27 Z  (1 : Int32) S
set_option maxRecDepth 20000 in
set_option maxHeartbeats 4000000 in
theorem sJ_X0_isRateOfPeriod_14 (Z : ZT)  (x0 : Int64)  (S : St) : Sim eI Z rm_X0_isRateOfPeriod RX0 cX0_isRateOfPeriod 2 (some .boolean) 14 [(0, .long x0)] [] S (J_X0_isRateOfPeriod_14  x0 S) := by
  unfold J_X0_isRateOfPeriod_14
  refine sm_lload_n (pc := 14) dX0_isRateOfPeriod_14 rfl 0 rfl ?_
  refine sm_ldc2 (pc := 15) (-9223372036854775808 : Int64) dX0_isRateOfPeriod_15 kc_RX0_13 ?_
  refine sm_lcmp_ne 26 (pc := 18) dX0_isRateOfPeriod_18 dX0_isRateOfPeriod_19 rfl ?_ ?_
  · refine sm_iconst (pc := 26) (0 : Int32) dX0_isRateOfPeriod_26 (by decide) ?_
    refine sm_sub [] rfl ?_
    exact sJ_X0_isRateOfPeriod_27 Z  (0 : Int32) S
  refine sm_sub [] rfl ?_
  exact sJ_X0_isRateOfPeriod_22 Z  S
set_option maxRecDepth 20000 in
set_option maxHeartbeats 4000000 in
theorem s_X0_isRateOfPeriod (Z : ZT) (a1 : Int64) (S : St) : Sim eI Z rm_X0_isRateOfPeriod RX0 cX0_isRateOfPeriod 2 (some .boolean) 0 [(0, .long a1)] [] S (F_X0_isRateOfPeriod a1 S) := by
  unfold F_X0_isRateOfPeriod
  refine sm_lload_n (pc := 0) dX0_isRateOfPeriod_0 rfl 0 rfl ?_
  refine sm_lconst (pc := 1) (0 : Int64) dX0_isRateOfPeriod_1 (by decide) ?_
  refine sm_lcmp_lt 14 (pc := 2) dX0_isRateOfPeriod_2 dX0_isRateOfPeriod_3 rfl ?_ ?_
  · refine sm_sub [0] rfl ?_
    exact sJ_X0_isRateOfPeriod_14 Z  a1 S
  refine sm_lload_n (pc := 6) dX0_isRateOfPeriod_6 rfl 0 rfl ?_
  refine sm_ldc2 (pc := 7) (4621819117588971520 : Int64) dX0_isRateOfPeriod_7 kc_RX0_9 ?_
  refine sm_lcmp_le 22 (pc := 10) dX0_isRateOfPeriod_10 dX0_isRateOfPeriod_11 rfl ?_ ?_
  · refine sm_sub [] rfl ?_
    exact sJ_X0_isRateOfPeriod_22 Z  S
  refine sm_sub [0] rfl ?_
  exact sJ_X0_isRateOfPeriod_14 Z  a1 S
set_option maxRecDepth 20000 in
set_option maxHeartbeats 4000000 in
theorem m_X0_isRateOfPeriod (Z : ZT) (l : Launch) (a1 : Int64) (S : St) {r : Int32} {S' : St} (h : F_X0_isRateOfPeriod a1 S = some (r, S')) : MetX Z l yX0_isRateOfPeriod cX0_isRateOfPeriod 2 (some .boolean) rm_X0_isRateOfPeriod [.long a1] S (eI r) S' := Sim.met (by decide +kernel) rfl (Nat.le_of_ble_eq_true rfl) (s_X0_isRateOfPeriod Z a1 S) l h
set_option maxRecDepth 20000 in
set_option maxHeartbeats 4000000 in
theorem sJ_J9_max_7cf53_10 (Z : ZT)   (t0 : Int32) (S : St) : Sim eI Z rm_J9_max_7cf53 RJ9 cJ9_max_7cf53 2 (some .int) 10 [] [.int t0] S (J_J9_max_7cf53_10  t0 S) := by
  unfold J_J9_max_7cf53_10
  exact sm_retI (pc := 10) dJ9_max_7cf53_10
set_option maxRecDepth 20000 in
set_option maxHeartbeats 4000000 in
theorem s_J9_max_7cf53 (Z : ZT) (a1 : Int32) (a2 : Int32) (S : St) : Sim eI Z rm_J9_max_7cf53 RJ9 cJ9_max_7cf53 2 (some .int) 0 [(0, .int a1), (1, .int a2)] [] S (F_J9_max_7cf53 a1 a2 S) := by
  unfold F_J9_max_7cf53
  refine sm_iload_n (pc := 0) dJ9_max_7cf53_0 rfl 0 rfl ?_
  refine sm_iload_n (pc := 1) dJ9_max_7cf53_1 rfl 1 rfl ?_
  refine sm_icmp_lt 9 (pc := 2) dJ9_max_7cf53_2 rfl ?_ ?_
  · refine sm_iload_n (pc := 9) dJ9_max_7cf53_9 rfl 1 rfl ?_
    refine sm_sub [] rfl ?_
    exact sJ_J9_max_7cf53_10 Z  a2 S
  refine sm_iload_n (pc := 5) dJ9_max_7cf53_5 rfl 0 rfl ?_
  refine sm_goto 10 (pc := 6) dJ9_max_7cf53_6 rfl ?_
  refine sm_sub [] rfl ?_
  exact sJ_J9_max_7cf53_10 Z  a1 S
set_option maxRecDepth 20000 in
set_option maxHeartbeats 4000000 in
theorem m_J9_max_7cf53 (Z : ZT) (l : Launch) (a1 : Int32) (a2 : Int32) (S : St) {r : Int32} {S' : St} (h : F_J9_max_7cf53 a1 a2 S = some (r, S')) : MetX Z l yJ9_max_7cf53 cJ9_max_7cf53 2 (some .int) rm_J9_max_7cf53 [.int a1, .int a2] S (eI r) S' := Sim.met (by decide +kernel) rfl (Nat.le_of_ble_eq_true rfl) (s_J9_max_7cf53 Z a1 a2 S) l h
set_option maxRecDepth 20000 in
set_option maxHeartbeats 4000000 in
theorem sJ_X0_toDouble_84 (Z : ZT)  (x5 : UInt64)  (S : St) : Sim eD Z rm_X0_toDouble RX0 cX0_toDouble 9 (some .double) 84 [(5, .double x5)] [] S (J_X0_toDouble_84  x5 S) := by
  unfold J_X0_toDouble_84
  refine sm_dload (pc := 84) dX0_toDouble_84 0 rfl ?_
  exact sm_retD (pc := 86) dX0_toDouble_86
set_option maxRecDepth 20000 in
set_option maxHeartbeats 4000000 in
theorem sB_X0_toDouble_47 (Z : ZT) (rec47 : (UInt64 → Int32 → Int32 → St → Option (UInt64 × St))) (h47 : ∀ (x5 : UInt64) (x7 : Int32) (x8 : Int32)  (S : St), Sim eD Z rm_X0_toDouble RX0 cX0_toDouble 9 (some .double) 47 [(5, .double x5), (7, .int x7), (8, .int x8)] [] S (rec47 x5 x7 x8 S)) (x5 : UInt64) (x7 : Int32) (x8 : Int32)  (S : St) : Sim eD Z rm_X0_toDouble RX0 cX0_toDouble 9 (some .double) 47 [(5, .double x5), (7, .int x7), (8, .int x8)] [] S (B_X0_toDouble_47 rec47 x5 x7 x8 S) := by
  unfold B_X0_toDouble_47
  refine sm_iload (pc := 47) dX0_toDouble_47 2 rfl ?_
  refine sm_sipush (pc := 49) (1100 : Int32) dX0_toDouble_49 (by decide) ?_
  refine sm_icmp_ge 84 (pc := 52) dX0_toDouble_52 rfl ?_ ?_
  · refine sm_sub [0] rfl ?_
    exact sJ_X0_toDouble_84 Z  x5 S
  refine sm_iload (pc := 55) dX0_toDouble_55 1 rfl ?_
  refine sm_if_ge 84 (pc := 57) dX0_toDouble_57 rfl ?_ ?_
  · refine sm_sub [0] rfl ?_
    exact sJ_X0_toDouble_84 Z  x5 S
  refine sm_dload (pc := 60) dX0_toDouble_60 0 rfl ?_
  refine sm_dconst0 (pc := 62) dX0_toDouble_62 ?_
  refine sm_dcmp_le 84 (pc := 63) dX0_toDouble_63 dX0_toDouble_64 rfl ?_ ?_
  · refine sm_sub [0] rfl ?_
    exact sJ_X0_toDouble_84 Z  x5 S
  refine sm_dload (pc := 67) dX0_toDouble_67 0 rfl ?_
  refine sm_ldc2d (pc := 69) (4611686018427387904 : UInt64) dX0_toDouble_69 kc_RX0_25 ?_
  refine sm_ddiv (pc := 72) dX0_toDouble_72 (fun v72 => ?_)
  refine sm_dstore (pc := 73) (lv' := [(5, .double v72), (7, .int x7), (8, .int x8)]) dX0_toDouble_73 (by decide) rfl ?_
  refine sm_iinc (pc := 75) (x7 + 1) (lv' := [(7, .int (x7 + 1)), (5, .double v72), (8, .int x8)]) dX0_toDouble_75 1 rfl rfl (by decide) rfl ?_
  refine sm_iinc (pc := 78) (x8 + 1) (lv' := [(8, .int (x8 + 1)), (7, .int (x7 + 1)), (5, .double v72)]) dX0_toDouble_78 2 rfl rfl (by decide) rfl ?_
  refine sm_goto 47 (pc := 81) dX0_toDouble_81 rfl ?_
  refine sm_sub [2, 1, 0] rfl ?_
  exact h47 v72 (x7 + 1) (x8 + 1) S
set_option maxRecDepth 20000 in
set_option maxHeartbeats 4000000 in
theorem sL_X0_toDouble_47 (Z : ZT)  (n : Nat) : ∀ (x5 : UInt64) (x7 : Int32) (x8 : Int32)  (S : St), Sim eD Z rm_X0_toDouble RX0 cX0_toDouble 9 (some .double) 47 [(5, .double x5), (7, .int x7), (8, .int x8)] [] S (L_X0_toDouble_47  n x5 x7 x8 S) := by
  induction n with
  | zero => intros; exact sm_none
  | succ n ih => intro x5 x7 x8 S; exact sB_X0_toDouble_47 Z  (L_X0_toDouble_47  n) ih x5 x7 x8 S
set_option maxRecDepth 20000 in
set_option maxHeartbeats 4000000 in
theorem sJ_X0_toDouble_31 (Z : ZT)  (x2 : Int32) (t0 : UInt64) (S : St) : Sim eD Z rm_X0_toDouble RX0 cX0_toDouble 9 (some .double) 31 [(2, .int x2)] [.double t0] S (J_X0_toDouble_31  x2 t0 S) := by
  unfold J_X0_toDouble_31
  refine sm_dstore (pc := 31) (lv' := [(5, .double t0), (2, .int x2)]) dX0_toDouble_31 (by decide) rfl ?_
  refine sm_iload_n (pc := 33) dX0_toDouble_33 rfl 1 rfl ?_
  refine sm_iconst (pc := 34) (1 : Int32) dX0_toDouble_34 (by decide) ?_
  refine sm_callSI (pc := 35) [.int x2, .int (1 : Int32)] (fun lq rq Sq hq => m_J9_max_7cf53 Z lq x2 (1 : Int32) S hq) dX0_toDouble_35 mi_J9_max_7cf53 ml_RX0_19 ⟨Nat.le_of_ble_eq_true rfl, Nat.le_of_ble_eq_true rfl, rfl, rfl⟩ rfl (Nat.le_of_ble_eq_true rfl) rfl (fun r35 S35 => ?_)
  refine sm_sipush (pc := 38) (1075 : Int32) dX0_toDouble_38 (by decide) ?_
  refine sm_isub (pc := 41) dX0_toDouble_41 ?_
  refine sm_bdI (fun v42 => ?_)
  refine sm_istore (pc := 42) (lv' := [(7, .int v42), (5, .double t0), (2, .int x2)]) dX0_toDouble_42 (by decide) rfl ?_
  refine sm_iconst (pc := 44) (0 : Int32) dX0_toDouble_44 (by decide) ?_
  refine sm_istore (pc := 45) (lv' := [(8, .int (0 : Int32)), (7, .int v42), (5, .double t0), (2, .int x2)]) dX0_toDouble_45 (by decide) rfl ?_
  refine sm_sub [2, 1, 0] rfl ?_
  exact sL_X0_toDouble_47 Z  6000 t0 v42 (0 : Int32) S35
set_option maxRecDepth 20000 in
set_option maxHeartbeats 4000000 in
theorem s_X0_toDouble (Z : ZT) (a1 : Int64) (S : St) : Sim eD Z rm_X0_toDouble RX0 cX0_toDouble 9 (some .double) 0 [(0, .long a1)] [] S (F_X0_toDouble a1 S) := by
  unfold F_X0_toDouble
  refine sm_lload_n (pc := 0) dX0_toDouble_0 rfl 0 rfl ?_
  refine sm_bipush (pc := 1) (52 : Int32) dX0_toDouble_1 (by decide) ?_
  refine sm_lushr (pc := 3) dX0_toDouble_3 ?_
  refine sm_l2i (pc := 4) dX0_toDouble_4 ?_
  refine sm_sipush (pc := 5) (2047 : Int32) dX0_toDouble_5 (by decide) ?_
  refine sm_iand (pc := 8) dX0_toDouble_8 ?_
  refine sm_bdI (fun v9 => ?_)
  refine sm_istore_n (pc := 9) (lv' := [(2, .int v9), (0, .long a1)]) dX0_toDouble_9 rfl (by decide) rfl ?_
  refine sm_lload_n (pc := 10) dX0_toDouble_10 rfl 1 rfl ?_
  refine sm_ldc2 (pc := 11) (4503599627370495 : Int64) dX0_toDouble_11 kc_RX0_15 ?_
  refine sm_land (pc := 14) dX0_toDouble_14 ?_
  refine sm_bdJ (fun v15 => ?_)
  refine sm_lstore_n (pc := 15) (lv' := [(3, .long v15), (2, .int v9), (0, .long a1)]) dX0_toDouble_15 rfl (by decide) rfl ?_
  refine sm_iload_n (pc := 16) dX0_toDouble_16 rfl 1 rfl ?_
  refine sm_if_ne 25 (pc := 17) dX0_toDouble_17 rfl ?_ ?_
  · refine sm_lload_n (pc := 25) dX0_toDouble_25 rfl 0 rfl ?_
    refine sm_ldc2 (pc := 26) (4503599627370496 : Int64) dX0_toDouble_26 kc_RX0_17 ?_
    refine sm_ladd (pc := 29) dX0_toDouble_29 ?_
    refine sm_l2d (pc := 30) dX0_toDouble_30 ?_
    refine sm_sub [1] rfl ?_
    exact sJ_X0_toDouble_31 Z  v9 (FP.l2d (v15 + (4503599627370496 : Int64))) S
  refine sm_lload_n (pc := 20) dX0_toDouble_20 rfl 0 rfl ?_
  refine sm_l2d (pc := 21) dX0_toDouble_21 ?_
  refine sm_goto 31 (pc := 22) dX0_toDouble_22 rfl ?_
  refine sm_sub [1] rfl ?_
  exact sJ_X0_toDouble_31 Z  v9 (FP.l2d v15) S
set_option maxRecDepth 20000 in
set_option maxHeartbeats 4000000 in
theorem m_X0_toDouble (Z : ZT) (l : Launch) (a1 : Int64) (S : St) {r : UInt64} {S' : St} (h : F_X0_toDouble a1 S = some (r, S')) : MetX Z l yX0_toDouble cX0_toDouble 9 (some .double) rm_X0_toDouble [.long a1] S (eD r) S' := Sim.met (by decide +kernel) rfl (Nat.le_of_ble_eq_true rfl) (s_X0_toDouble Z a1 S) l h
set_option maxRecDepth 20000 in
set_option maxHeartbeats 4000000 in
theorem sJ_X0_ofDouble_81 (Z : ZT)  (x2 : UInt64) (x4 : Int32)  (S : St) : Sim eL Z rm_X0_ofDouble RX0 cX0_ofDouble 6 (some .long) 81 [(2, .double x2), (4, .int x4)] [] S (J_X0_ofDouble_81  x2 x4 S) := by
  unfold J_X0_ofDouble_81
  refine sm_iload (pc := 81) dX0_ofDouble_81 1 rfl ?_
  refine sm_i2l (pc := 83) dX0_ofDouble_83 ?_
  refine sm_bipush (pc := 84) (52 : Int32) dX0_ofDouble_84 (by decide) ?_
  refine sm_lshl (pc := 86) dX0_ofDouble_86 ?_
  refine sm_dload_n (pc := 87) dX0_ofDouble_87 rfl 0 rfl ?_
  refine sm_dconst1 (pc := 88) dX0_ofDouble_88 ?_
  refine sm_dsub (pc := 89) dX0_ofDouble_89 (fun v89 => ?_)
  refine sm_ldc2d (pc := 90) (4841369599423283200 : UInt64) dX0_ofDouble_90 kc_RX0_27 ?_
  refine sm_dmul (pc := 93) dX0_ofDouble_93 (fun v93 => ?_)
  refine sm_d2l (pc := 94) dX0_ofDouble_94 ?_
  refine sm_ladd (pc := 95) dX0_ofDouble_95 ?_
  exact sm_retL (pc := 96) dX0_ofDouble_96
set_option maxRecDepth 20000 in
set_option maxHeartbeats 4000000 in
theorem sB_X0_ofDouble_52 (Z : ZT) (rec52 : (UInt64 → Int32 → Int32 → St → Option (Int64 × St))) (h52 : ∀ (x2 : UInt64) (x4 : Int32) (x5 : Int32)  (S : St), Sim eL Z rm_X0_ofDouble RX0 cX0_ofDouble 6 (some .long) 52 [(2, .double x2), (4, .int x4), (5, .int x5)] [] S (rec52 x2 x4 x5 S)) (x2 : UInt64) (x4 : Int32) (x5 : Int32)  (S : St) : Sim eL Z rm_X0_ofDouble RX0 cX0_ofDouble 6 (some .long) 52 [(2, .double x2), (4, .int x4), (5, .int x5)] [] S (B_X0_ofDouble_52 rec52 x2 x4 x5 S) := by
  unfold B_X0_ofDouble_52
  refine sm_iload (pc := 52) dX0_ofDouble_52 2 rfl ?_
  refine sm_sipush (pc := 54) (1100 : Int32) dX0_ofDouble_54 (by decide) ?_
  refine sm_icmp_ge 81 (pc := 57) dX0_ofDouble_57 rfl ?_ ?_
  · refine sm_sub [0, 1] rfl ?_
    exact sJ_X0_ofDouble_81 Z  x2 x4 S
  refine sm_dload_n (pc := 60) dX0_ofDouble_60 rfl 0 rfl ?_
  refine sm_dconst1 (pc := 61) dX0_ofDouble_61 ?_
  refine sm_dcmp_ge 81 (pc := 62) dX0_ofDouble_62 dX0_ofDouble_63 rfl ?_ ?_
  · refine sm_sub [0, 1] rfl ?_
    exact sJ_X0_ofDouble_81 Z  x2 x4 S
  refine sm_dload_n (pc := 66) dX0_ofDouble_66 rfl 0 rfl ?_
  refine sm_ldc2d (pc := 67) (4611686018427387904 : UInt64) dX0_ofDouble_67 kc_RX0_25 ?_
  refine sm_dmul (pc := 70) dX0_ofDouble_70 (fun v70 => ?_)
  refine sm_dstore_n (pc := 71) (lv' := [(2, .double v70), (4, .int x4), (5, .int x5)]) dX0_ofDouble_71 rfl (by decide) rfl ?_
  refine sm_iinc (pc := 72) (x4 + (-1)) (lv' := [(4, .int (x4 + (-1))), (2, .double v70), (5, .int x5)]) dX0_ofDouble_72 1 rfl rfl (by decide) rfl ?_
  refine sm_iinc (pc := 75) (x5 + 1) (lv' := [(5, .int (x5 + 1)), (4, .int (x4 + (-1))), (2, .double v70)]) dX0_ofDouble_75 2 rfl rfl (by decide) rfl ?_
  refine sm_goto 52 (pc := 78) dX0_ofDouble_78 rfl ?_
  refine sm_sub [2, 1, 0] rfl ?_
  exact h52 v70 (x4 + (-1)) (x5 + 1) S
set_option maxRecDepth 20000 in
set_option maxHeartbeats 4000000 in
theorem sL_X0_ofDouble_52 (Z : ZT)  (n : Nat) : ∀ (x2 : UInt64) (x4 : Int32) (x5 : Int32)  (S : St), Sim eL Z rm_X0_ofDouble RX0 cX0_ofDouble 6 (some .long) 52 [(2, .double x2), (4, .int x4), (5, .int x5)] [] S (L_X0_ofDouble_52  n x2 x4 x5 S) := by
  induction n with
  | zero => intros; exact sm_none
  | succ n ih => intro x2 x4 x5 S; exact sB_X0_ofDouble_52 Z  (L_X0_ofDouble_52  n) ih x2 x4 x5 S
set_option maxRecDepth 20000 in
set_option maxHeartbeats 4000000 in
theorem sJ_X0_ofDouble_49 (Z : ZT)  (x2 : UInt64) (x4 : Int32)  (S : St) : Sim eL Z rm_X0_ofDouble RX0 cX0_ofDouble 6 (some .long) 49 [(2, .double x2), (4, .int x4)] [] S (J_X0_ofDouble_49  x2 x4 S) := by
  unfold J_X0_ofDouble_49
  refine sm_iconst (pc := 49) (0 : Int32) dX0_ofDouble_49 (by decide) ?_
  refine sm_istore (pc := 50) (lv' := [(5, .int (0 : Int32)), (2, .double x2), (4, .int x4)]) dX0_ofDouble_50 (by decide) rfl ?_
  refine sm_sub [1, 2, 0] rfl ?_
  exact sL_X0_ofDouble_52 Z  6000 x2 x4 (0 : Int32) S
set_option maxRecDepth 20000 in
set_option maxHeartbeats 4000000 in
theorem sB_X0_ofDouble_18 (Z : ZT) (rec18 : (UInt64 → Int32 → Int32 → St → Option (Int64 × St))) (h18 : ∀ (x2 : UInt64) (x4 : Int32) (x5 : Int32)  (S : St), Sim eL Z rm_X0_ofDouble RX0 cX0_ofDouble 6 (some .long) 18 [(2, .double x2), (4, .int x4), (5, .int x5)] [] S (rec18 x2 x4 x5 S)) (x2 : UInt64) (x4 : Int32) (x5 : Int32)  (S : St) : Sim eL Z rm_X0_ofDouble RX0 cX0_ofDouble 6 (some .long) 18 [(2, .double x2), (4, .int x4), (5, .int x5)] [] S (B_X0_ofDouble_18 rec18 x2 x4 x5 S) := by
  unfold B_X0_ofDouble_18
  refine sm_iload (pc := 18) dX0_ofDouble_18 2 rfl ?_
  refine sm_sipush (pc := 20) (1100 : Int32) dX0_ofDouble_20 (by decide) ?_
  refine sm_icmp_ge 49 (pc := 23) dX0_ofDouble_23 rfl ?_ ?_
  · refine sm_sub [0, 1] rfl ?_
    exact sJ_X0_ofDouble_49 Z  x2 x4 S
  refine sm_dload_n (pc := 26) dX0_ofDouble_26 rfl 0 rfl ?_
  refine sm_ldc2d (pc := 27) (4611686018427387904 : UInt64) dX0_ofDouble_27 kc_RX0_25 ?_
  refine sm_dcmp_lt 49 (pc := 30) dX0_ofDouble_30 dX0_ofDouble_31 rfl ?_ ?_
  · refine sm_sub [0, 1] rfl ?_
    exact sJ_X0_ofDouble_49 Z  x2 x4 S
  refine sm_dload_n (pc := 34) dX0_ofDouble_34 rfl 0 rfl ?_
  refine sm_ldc2d (pc := 35) (4611686018427387904 : UInt64) dX0_ofDouble_35 kc_RX0_25 ?_
  refine sm_ddiv (pc := 38) dX0_ofDouble_38 (fun v38 => ?_)
  refine sm_dstore_n (pc := 39) (lv' := [(2, .double v38), (4, .int x4), (5, .int x5)]) dX0_ofDouble_39 rfl (by decide) rfl ?_
  refine sm_iinc (pc := 40) (x4 + 1) (lv' := [(4, .int (x4 + 1)), (2, .double v38), (5, .int x5)]) dX0_ofDouble_40 1 rfl rfl (by decide) rfl ?_
  refine sm_iinc (pc := 43) (x5 + 1) (lv' := [(5, .int (x5 + 1)), (4, .int (x4 + 1)), (2, .double v38)]) dX0_ofDouble_43 2 rfl rfl (by decide) rfl ?_
  refine sm_goto 18 (pc := 46) dX0_ofDouble_46 rfl ?_
  refine sm_sub [2, 1, 0] rfl ?_
  exact h18 v38 (x4 + 1) (x5 + 1) S
set_option maxRecDepth 20000 in
set_option maxHeartbeats 4000000 in
theorem sL_X0_ofDouble_18 (Z : ZT)  (n : Nat) : ∀ (x2 : UInt64) (x4 : Int32) (x5 : Int32)  (S : St), Sim eL Z rm_X0_ofDouble RX0 cX0_ofDouble 6 (some .long) 18 [(2, .double x2), (4, .int x4), (5, .int x5)] [] S (L_X0_ofDouble_18  n x2 x4 x5 S) := by
  induction n with
  | zero => intros; exact sm_none
  | succ n ih => intro x2 x4 x5 S; exact sB_X0_ofDouble_18 Z  (L_X0_ofDouble_18  n) ih x2 x4 x5 S
set_option maxRecDepth 20000 in
set_option maxHeartbeats 4000000 in
theorem s_X0_ofDouble (Z : ZT) (a1 : UInt64) (S : St) : Sim eL Z rm_X0_ofDouble RX0 cX0_ofDouble 6 (some .long) 0 [(0, .double a1)] [] S (F_X0_ofDouble a1 S) := by
  unfold F_X0_ofDouble
  refine sm_dload_n (pc := 0) dX0_ofDouble_0 rfl 0 rfl ?_
  refine sm_dconst0 (pc := 1) dX0_ofDouble_1 ?_
  refine sm_dcmp_gt 8 (pc := 2) dX0_ofDouble_2 dX0_ofDouble_3 rfl ?_ ?_
  · refine sm_dload_n (pc := 8) dX0_ofDouble_8 rfl 0 rfl ?_
    refine sm_dstore_n (pc := 9) (lv' := [(2, .double a1), (0, .double a1)]) dX0_ofDouble_9 rfl (by decide) rfl ?_
    refine sm_sipush (pc := 10) (1023 : Int32) dX0_ofDouble_10 (by decide) ?_
    refine sm_istore (pc := 13) (lv' := [(4, .int (1023 : Int32)), (2, .double a1), (0, .double a1)]) dX0_ofDouble_13 (by decide) rfl ?_
    refine sm_iconst (pc := 15) (0 : Int32) dX0_ofDouble_15 (by decide) ?_
    refine sm_istore (pc := 16) (lv' := [(5, .int (0 : Int32)), (4, .int (1023 : Int32)), (2, .double a1), (0, .double a1)]) dX0_ofDouble_16 (by decide) rfl ?_
    refine sm_sub [2, 1, 0] rfl ?_
    exact sL_X0_ofDouble_18 Z  6000 a1 (1023 : Int32) (0 : Int32) S
  refine sm_lconst (pc := 6) (0 : Int64) dX0_ofDouble_6 (by decide) ?_
  exact sm_retL (pc := 7) dX0_ofDouble_7
set_option maxRecDepth 20000 in
set_option maxHeartbeats 4000000 in
theorem m_X0_ofDouble (Z : ZT) (l : Launch) (a1 : UInt64) (S : St) {r : Int64} {S' : St} (h : F_X0_ofDouble a1 S = some (r, S')) : MetX Z l yX0_ofDouble cX0_ofDouble 6 (some .long) rm_X0_ofDouble [.double a1] S (eL r) S' := Sim.met (by decide +kernel) rfl (Nat.le_of_ble_eq_true rfl) (s_X0_ofDouble Z a1 S) l h
set_option maxRecDepth 20000 in
set_option maxHeartbeats 4000000 in
theorem s_X0_ofFloat (Z : ZT) (a1 : UInt32) (S : St) : Sim eI Z rm_X0_ofFloat RX0 cX0_ofFloat 4 (some .int) 0 [(0, .float a1)] [] S (F_X0_ofFloat a1 S) := by
  unfold F_X0_ofFloat
  refine sm_fload_n (pc := 0) dX0_ofFloat_0 rfl 0 rfl ?_
  refine sm_f2d (pc := 1) dX0_ofFloat_1 (fun v1 => ?_)
  refine sm_callSL (pc := 2) [.double v1] (fun lq rq Sq hq => m_X0_ofDouble Z lq v1 S hq) dX0_ofFloat_2 mi_X0_ofDouble ml_RX0_29 ⟨Nat.le_of_ble_eq_true rfl, Nat.le_of_ble_eq_true rfl, rfl, rfl⟩ rfl (Nat.le_of_ble_eq_true rfl) rfl (fun r2 S2 => ?_)
  refine sm_lstore_n (pc := 5) (lv' := [(1, .long r2), (0, .float a1)]) dX0_ofFloat_5 rfl (by decide) rfl ?_
  refine sm_lload_n (pc := 6) dX0_ofFloat_6 rfl 0 rfl ?_
  refine sm_lconst (pc := 7) (0 : Int64) dX0_ofFloat_7 (by decide) ?_
  refine sm_lcmp_ne 14 (pc := 8) dX0_ofFloat_8 dX0_ofFloat_9 rfl ?_ ?_
  · refine sm_lload_n (pc := 14) dX0_ofFloat_14 rfl 0 rfl ?_
    refine sm_bipush (pc := 15) (52 : Int32) dX0_ofFloat_15 (by decide) ?_
    refine sm_lushr (pc := 17) dX0_ofFloat_17 ?_
    refine sm_l2i (pc := 18) dX0_ofFloat_18 ?_
    refine sm_sipush (pc := 19) (1023 : Int32) dX0_ofFloat_19 (by decide) ?_
    refine sm_isub (pc := 22) dX0_ofFloat_22 ?_
    refine sm_bipush (pc := 23) (127 : Int32) dX0_ofFloat_23 (by decide) ?_
    refine sm_iadd (pc := 25) dX0_ofFloat_25 ?_
    refine sm_bdI (fun v26 => ?_)
    refine sm_istore_n (pc := 26) (lv' := [(3, .int v26), (1, .long r2), (0, .float a1)]) dX0_ofFloat_26 rfl (by decide) rfl ?_
    refine sm_iload_n (pc := 27) dX0_ofFloat_27 rfl 0 rfl ?_
    refine sm_bipush (pc := 28) (23 : Int32) dX0_ofFloat_28 (by decide) ?_
    refine sm_ishl (pc := 30) dX0_ofFloat_30 ?_
    refine sm_lload_n (pc := 31) dX0_ofFloat_31 rfl 1 rfl ?_
    refine sm_ldc2 (pc := 32) (4503599627370495 : Int64) dX0_ofFloat_32 kc_RX0_15 ?_
    refine sm_land (pc := 35) dX0_ofFloat_35 ?_
    refine sm_bipush (pc := 36) (29 : Int32) dX0_ofFloat_36 (by decide) ?_
    refine sm_lushr (pc := 38) dX0_ofFloat_38 ?_
    refine sm_l2i (pc := 39) dX0_ofFloat_39 ?_
    refine sm_iadd (pc := 40) dX0_ofFloat_40 ?_
    exact sm_retI (pc := 41) dX0_ofFloat_41
  refine sm_iconst (pc := 12) (0 : Int32) dX0_ofFloat_12 (by decide) ?_
  exact sm_retI (pc := 13) dX0_ofFloat_13
set_option maxRecDepth 20000 in
set_option maxHeartbeats 4000000 in
theorem m_X0_ofFloat (Z : ZT) (l : Launch) (a1 : UInt32) (S : St) {r : Int32} {S' : St} (h : F_X0_ofFloat a1 S = some (r, S')) : MetX Z l yX0_ofFloat cX0_ofFloat 4 (some .int) rm_X0_ofFloat [.float a1] S (eI r) S' := Sim.met (by decide +kernel) rfl (Nat.le_of_ble_eq_true rfl) (s_X0_ofFloat Z a1 S) l h
set_option maxRecDepth 20000 in
set_option maxHeartbeats 4000000 in
theorem s_X4_copyFrom (Z : ZT) (c : Nat) (a1 : Nat) (S : St) : Sim eV Z rm_X4_copyFrom RX4 cX4_copyFrom 2 none 0 [(0, .ref c), (1, .ref a1)] [] S (F_X4_copyFrom c a1 S) := by
  unfold F_X4_copyFrom
  refine sm_aload_n (pc := 0) dX4_copyFrom_0 rfl 0 rfl ?_
  refine sm_aload_n (pc := 1) dX4_copyFrom_1 rfl 1 rfl ?_
  refine sm_getL (pc := 2) dX4_copyFrom_2 fr_RX4_32 (by decide) rfl (fun v2 => ?_)
  refine sm_putL (pc := 5) dX4_copyFrom_5 fw_RX4_32 (by decide) rfl (fun S5 => ?_)
  refine sm_aload_n (pc := 8) dX4_copyFrom_8 rfl 0 rfl ?_
  refine sm_aload_n (pc := 9) dX4_copyFrom_9 rfl 1 rfl ?_
  refine sm_getL (pc := 10) dX4_copyFrom_10 fr_RX4_36 (by decide) rfl (fun v10 => ?_)
  refine sm_putL (pc := 13) dX4_copyFrom_13 fw_RX4_36 (by decide) rfl (fun S13 => ?_)
  refine sm_aload_n (pc := 16) dX4_copyFrom_16 rfl 0 rfl ?_
  refine sm_aload_n (pc := 17) dX4_copyFrom_17 rfl 1 rfl ?_
  refine sm_getL (pc := 18) dX4_copyFrom_18 fr_RX4_39 (by decide) rfl (fun v18 => ?_)
  refine sm_putL (pc := 21) dX4_copyFrom_21 fw_RX4_39 (by decide) rfl (fun S21 => ?_)
  refine sm_aload_n (pc := 24) dX4_copyFrom_24 rfl 0 rfl ?_
  refine sm_aload_n (pc := 25) dX4_copyFrom_25 rfl 1 rfl ?_
  refine sm_getL (pc := 26) dX4_copyFrom_26 fr_RX4_42 (by decide) rfl (fun v26 => ?_)
  refine sm_putL (pc := 29) dX4_copyFrom_29 fw_RX4_42 (by decide) rfl (fun S29 => ?_)
  refine sm_aload_n (pc := 32) dX4_copyFrom_32 rfl 0 rfl ?_
  refine sm_aload_n (pc := 33) dX4_copyFrom_33 rfl 1 rfl ?_
  refine sm_getL (pc := 34) dX4_copyFrom_34 fr_RX4_45 (by decide) rfl (fun v34 => ?_)
  refine sm_putL (pc := 37) dX4_copyFrom_37 fw_RX4_45 (by decide) rfl (fun S37 => ?_)
  refine sm_aload_n (pc := 40) dX4_copyFrom_40 rfl 0 rfl ?_
  refine sm_aload_n (pc := 41) dX4_copyFrom_41 rfl 1 rfl ?_
  refine sm_getL (pc := 42) dX4_copyFrom_42 fr_RX4_48 (by decide) rfl (fun v42 => ?_)
  refine sm_putL (pc := 45) dX4_copyFrom_45 fw_RX4_48 (by decide) rfl (fun S45 => ?_)
  refine sm_aload_n (pc := 48) dX4_copyFrom_48 rfl 0 rfl ?_
  refine sm_aload_n (pc := 49) dX4_copyFrom_49 rfl 1 rfl ?_
  refine sm_getL (pc := 50) dX4_copyFrom_50 fr_RX4_51 (by decide) rfl (fun v50 => ?_)
  refine sm_putL (pc := 53) dX4_copyFrom_53 fw_RX4_51 (by decide) rfl (fun S53 => ?_)
  refine sm_aload_n (pc := 56) dX4_copyFrom_56 rfl 0 rfl ?_
  refine sm_aload_n (pc := 57) dX4_copyFrom_57 rfl 1 rfl ?_
  refine sm_getI (pc := 58) dX4_copyFrom_58 fr_RX4_54 (by decide) rfl (fun v58 => ?_)
  refine sm_putI (pc := 61) dX4_copyFrom_61 fw_RX4_54 (by decide) rfl (fun S61 => ?_)
  refine sm_aload_n (pc := 64) dX4_copyFrom_64 rfl 0 rfl ?_
  refine sm_aload_n (pc := 65) dX4_copyFrom_65 rfl 1 rfl ?_
  refine sm_getI (pc := 66) dX4_copyFrom_66 fr_RX4_58 (by decide) rfl (fun v66 => ?_)
  refine sm_putI (pc := 69) dX4_copyFrom_69 fw_RX4_58 (by decide) rfl (fun S69 => ?_)
  refine sm_aload_n (pc := 72) dX4_copyFrom_72 rfl 0 rfl ?_
  refine sm_aload_n (pc := 73) dX4_copyFrom_73 rfl 1 rfl ?_
  refine sm_getI (pc := 74) dX4_copyFrom_74 fr_RX4_61 (by decide) rfl (fun v74 => ?_)
  refine sm_putI (pc := 77) dX4_copyFrom_77 fw_RX4_61 (by decide) rfl (fun S77 => ?_)
  refine sm_aload_n (pc := 80) dX4_copyFrom_80 rfl 0 rfl ?_
  refine sm_aload_n (pc := 81) dX4_copyFrom_81 rfl 1 rfl ?_
  refine sm_getI (pc := 82) dX4_copyFrom_82 fr_RX4_64 (by decide) rfl (fun v82 => ?_)
  refine sm_putI (pc := 85) dX4_copyFrom_85 fw_RX4_64 (by decide) rfl (fun S85 => ?_)
  refine sm_aload_n (pc := 88) dX4_copyFrom_88 rfl 0 rfl ?_
  refine sm_aload_n (pc := 89) dX4_copyFrom_89 rfl 1 rfl ?_
  refine sm_getI (pc := 90) dX4_copyFrom_90 fr_RX4_67 (by decide) rfl (fun v90 => ?_)
  refine sm_putI (pc := 93) dX4_copyFrom_93 fw_RX4_67 (by decide) rfl (fun S93 => ?_)
  refine sm_aload_n (pc := 96) dX4_copyFrom_96 rfl 0 rfl ?_
  refine sm_aload_n (pc := 97) dX4_copyFrom_97 rfl 1 rfl ?_
  refine sm_getI (pc := 98) dX4_copyFrom_98 fr_RX4_70 (by decide) rfl (fun v98 => ?_)
  refine sm_putI (pc := 101) dX4_copyFrom_101 fw_RX4_70 (by decide) rfl (fun S101 => ?_)
  refine sm_aload_n (pc := 104) dX4_copyFrom_104 rfl 1 rfl ?_
  refine sm_getR (pc := 105) dX4_copyFrom_105 fr_RX4_9 (by decide) rfl (fun v105 => ?_)
  refine sm_iconst (pc := 108) (0 : Int32) dX4_copyFrom_108 (by decide) ?_
  refine sm_aload_n (pc := 109) dX4_copyFrom_109 rfl 0 rfl ?_
  refine sm_getR (pc := 110) dX4_copyFrom_110 fr_RX4_9 (by decide) rfl (fun v110 => ?_)
  refine sm_iconst (pc := 113) (0 : Int32) dX4_copyFrom_113 (by decide) ?_
  refine sm_bipush (pc := 114) (61 : Int32) dX4_copyFrom_114 (by decide) ?_
  refine sm_acI (pc := 116) dX4_copyFrom_116 ml_RX4_73 ac_nat ac_sta ac_ini ⟨Nat.le_of_ble_eq_true rfl, Nat.le_of_ble_eq_true rfl⟩ (fun S116 => ?_)
  refine sm_aload_n (pc := 119) dX4_copyFrom_119 rfl 1 rfl ?_
  refine sm_getR (pc := 120) dX4_copyFrom_120 fr_RX4_15 (by decide) rfl (fun v120 => ?_)
  refine sm_iconst (pc := 123) (0 : Int32) dX4_copyFrom_123 (by decide) ?_
  refine sm_aload_n (pc := 124) dX4_copyFrom_124 rfl 0 rfl ?_
  refine sm_getR (pc := 125) dX4_copyFrom_125 fr_RX4_15 (by decide) rfl (fun v125 => ?_)
  refine sm_iconst (pc := 128) (0 : Int32) dX4_copyFrom_128 (by decide) ?_
  refine sm_bipush (pc := 129) (61 : Int32) dX4_copyFrom_129 (by decide) ?_
  refine sm_acJ (pc := 131) dX4_copyFrom_131 ml_RX4_73 ac_nat ac_sta ac_ini ⟨Nat.le_of_ble_eq_true rfl, Nat.le_of_ble_eq_true rfl⟩ (fun S131 => ?_)
  refine sm_aload_n (pc := 134) dX4_copyFrom_134 rfl 1 rfl ?_
  refine sm_getR (pc := 135) dX4_copyFrom_135 fr_RX4_19 (by decide) rfl (fun v135 => ?_)
  refine sm_iconst (pc := 138) (0 : Int32) dX4_copyFrom_138 (by decide) ?_
  refine sm_aload_n (pc := 139) dX4_copyFrom_139 rfl 0 rfl ?_
  refine sm_getR (pc := 140) dX4_copyFrom_140 fr_RX4_19 (by decide) rfl (fun v140 => ?_)
  refine sm_iconst (pc := 143) (0 : Int32) dX4_copyFrom_143 (by decide) ?_
  refine sm_bipush (pc := 144) (61 : Int32) dX4_copyFrom_144 (by decide) ?_
  refine sm_acJ (pc := 146) dX4_copyFrom_146 ml_RX4_73 ac_nat ac_sta ac_ini ⟨Nat.le_of_ble_eq_true rfl, Nat.le_of_ble_eq_true rfl⟩ (fun S146 => ?_)
  refine sm_aload_n (pc := 149) dX4_copyFrom_149 rfl 1 rfl ?_
  refine sm_getR (pc := 150) dX4_copyFrom_150 fr_RX4_22 (by decide) rfl (fun v150 => ?_)
  refine sm_iconst (pc := 153) (0 : Int32) dX4_copyFrom_153 (by decide) ?_
  refine sm_aload_n (pc := 154) dX4_copyFrom_154 rfl 0 rfl ?_
  refine sm_getR (pc := 155) dX4_copyFrom_155 fr_RX4_22 (by decide) rfl (fun v155 => ?_)
  refine sm_iconst (pc := 158) (0 : Int32) dX4_copyFrom_158 (by decide) ?_
  refine sm_bipush (pc := 159) (61 : Int32) dX4_copyFrom_159 (by decide) ?_
  refine sm_acJ (pc := 161) dX4_copyFrom_161 ml_RX4_73 ac_nat ac_sta ac_ini ⟨Nat.le_of_ble_eq_true rfl, Nat.le_of_ble_eq_true rfl⟩ (fun S161 => ?_)
  refine sm_aload_n (pc := 164) dX4_copyFrom_164 rfl 1 rfl ?_
  refine sm_getR (pc := 165) dX4_copyFrom_165 fr_RX4_25 (by decide) rfl (fun v165 => ?_)
  refine sm_iconst (pc := 168) (0 : Int32) dX4_copyFrom_168 (by decide) ?_
  refine sm_aload_n (pc := 169) dX4_copyFrom_169 rfl 0 rfl ?_
  refine sm_getR (pc := 170) dX4_copyFrom_170 fr_RX4_25 (by decide) rfl (fun v170 => ?_)
  refine sm_iconst (pc := 173) (0 : Int32) dX4_copyFrom_173 (by decide) ?_
  refine sm_bipush (pc := 174) (61 : Int32) dX4_copyFrom_174 (by decide) ?_
  refine sm_acJ (pc := 176) dX4_copyFrom_176 ml_RX4_73 ac_nat ac_sta ac_ini ⟨Nat.le_of_ble_eq_true rfl, Nat.le_of_ble_eq_true rfl⟩ (fun S176 => ?_)
  refine sm_aload_n (pc := 179) dX4_copyFrom_179 rfl 1 rfl ?_
  refine sm_getR (pc := 180) dX4_copyFrom_180 fr_RX4_28 (by decide) rfl (fun v180 => ?_)
  refine sm_iconst (pc := 183) (0 : Int32) dX4_copyFrom_183 (by decide) ?_
  refine sm_aload_n (pc := 184) dX4_copyFrom_184 rfl 0 rfl ?_
  refine sm_getR (pc := 185) dX4_copyFrom_185 fr_RX4_28 (by decide) rfl (fun v185 => ?_)
  refine sm_iconst (pc := 188) (0 : Int32) dX4_copyFrom_188 (by decide) ?_
  refine sm_bipush (pc := 189) (61 : Int32) dX4_copyFrom_189 (by decide) ?_
  refine sm_acZ (pc := 191) dX4_copyFrom_191 ml_RX4_73 ac_nat ac_sta ac_ini ⟨Nat.le_of_ble_eq_true rfl, Nat.le_of_ble_eq_true rfl⟩ (fun S191 => ?_)
  exact sm_retV (pc := 194) dX4_copyFrom_194
set_option maxRecDepth 20000 in
set_option maxHeartbeats 4000000 in
theorem m_X4_copyFrom (Z : ZT) (l : Launch) (c : Nat) (a1 : Nat) (S : St) {r : Unit} {S' : St} (h : F_X4_copyFrom c a1 S = some (r, S')) : MetX Z l yX4_copyFrom cX4_copyFrom 2 none rm_X4_copyFrom [.ref c, .ref a1] S (eV r) S' := Sim.met (by decide +kernel) rfl (Nat.le_of_ble_eq_true rfl) (s_X4_copyFrom Z c a1 S) l h
set_option maxRecDepth 20000 in
set_option maxHeartbeats 4000000 in
theorem sB_X1_copyFrom_34 (Z : ZT) (rec34 : (Nat → Nat → Int32 → St → Option (Unit × St))) (h34 : ∀ (x0 : Nat) (x1 : Nat) (x2 : Int32)  (S : St), Sim eV Z rm_X1_copyFrom RX1 cX1_copyFrom 3 none 34 [(0, .ref x0), (1, .ref x1), (2, .int x2)] [] S (rec34 x0 x1 x2 S)) (x0 : Nat) (x1 : Nat) (x2 : Int32)  (S : St) : Sim eV Z rm_X1_copyFrom RX1 cX1_copyFrom 3 none 34 [(0, .ref x0), (1, .ref x1), (2, .int x2)] [] S (B_X1_copyFrom_34 rec34 x0 x1 x2 S) := by
  unfold B_X1_copyFrom_34
  refine sm_iload_n (pc := 34) dX1_copyFrom_34 rfl 2 rfl ?_
  refine sm_aload_n (pc := 35) dX1_copyFrom_35 rfl 0 rfl ?_
  refine sm_getI (pc := 36) dX1_copyFrom_36 fr_RX1_21 (by decide) rfl (fun v36 => ?_)
  refine sm_icmp_ge 63 (pc := 39) dX1_copyFrom_39 rfl ?_ ?_
  · exact sm_retV (pc := 63) dX1_copyFrom_63
  refine sm_aload_n (pc := 42) dX1_copyFrom_42 rfl 0 rfl ?_
  refine sm_getR (pc := 43) dX1_copyFrom_43 fr_RX1_26 (by decide) rfl (fun v43 => ?_)
  refine sm_iload_n (pc := 46) dX1_copyFrom_46 rfl 2 rfl ?_
  refine sm_aR (pc := 47) dX1_copyFrom_47 (by decide) (fun v47 => ?_)
  refine sm_aload_n (pc := 48) dX1_copyFrom_48 rfl 1 rfl ?_
  refine sm_getR (pc := 49) dX1_copyFrom_49 fr_RX1_26 (by decide) rfl (fun v49 => ?_)
  refine sm_iload_n (pc := 52) dX1_copyFrom_52 rfl 2 rfl ?_
  refine sm_aR (pc := 53) dX1_copyFrom_53 (by decide) (fun v53 => ?_)
  refine sm_callVV (pc := 54) [.ref v53] (fun lq rq Sq hq => m_X4_copyFrom Z lq v47 v53 S hq) dX1_copyFrom_54 mi_X4_copyFrom ml_RX1_31 ⟨Nat.le_of_ble_eq_true rfl, Nat.le_of_ble_eq_true rfl, rfl, rfl⟩ rfl (by decide) rfl (Nat.le_of_ble_eq_true rfl) rfl (fun _ S54 => ?_)
  refine sm_iinc (pc := 57) (x2 + 1) (lv' := [(2, .int (x2 + 1)), (0, .ref x0), (1, .ref x1)]) dX1_copyFrom_57 2 rfl rfl (by decide) rfl ?_
  refine sm_goto 34 (pc := 60) dX1_copyFrom_60 rfl ?_
  refine sm_sub [1, 2, 0] rfl ?_
  exact h34 x0 x1 (x2 + 1) S54
set_option maxRecDepth 20000 in
set_option maxHeartbeats 4000000 in
theorem sL_X1_copyFrom_34 (Z : ZT)  (n : Nat) : ∀ (x0 : Nat) (x1 : Nat) (x2 : Int32)  (S : St), Sim eV Z rm_X1_copyFrom RX1 cX1_copyFrom 3 none 34 [(0, .ref x0), (1, .ref x1), (2, .int x2)] [] S (L_X1_copyFrom_34  n x0 x1 x2 S) := by
  induction n with
  | zero => intros; exact sm_none
  | succ n ih => intro x0 x1 x2 S; exact sB_X1_copyFrom_34 Z  (L_X1_copyFrom_34  n) ih x0 x1 x2 S
set_option maxRecDepth 20000 in
set_option maxHeartbeats 4000000 in
theorem s_X1_copyFrom (Z : ZT) (c : Nat) (a1 : Nat) (S : St) : Sim eV Z rm_X1_copyFrom RX1 cX1_copyFrom 3 none 0 [(0, .ref c), (1, .ref a1)] [] S (F_X1_copyFrom c a1 S) := by
  unfold F_X1_copyFrom
  refine sm_aload_n (pc := 0) dX1_copyFrom_0 rfl 0 rfl ?_
  refine sm_aload_n (pc := 1) dX1_copyFrom_1 rfl 1 rfl ?_
  refine sm_getI (pc := 2) dX1_copyFrom_2 fr_RX1_9 (by decide) rfl (fun v2 => ?_)
  refine sm_putI (pc := 5) dX1_copyFrom_5 fw_RX1_9 (by decide) rfl (fun S5 => ?_)
  refine sm_aload_n (pc := 8) dX1_copyFrom_8 rfl 0 rfl ?_
  refine sm_aload_n (pc := 9) dX1_copyFrom_9 rfl 1 rfl ?_
  refine sm_getI (pc := 10) dX1_copyFrom_10 fr_RX1_15 (by decide) rfl (fun v10 => ?_)
  refine sm_putI (pc := 13) dX1_copyFrom_13 fw_RX1_15 (by decide) rfl (fun S13 => ?_)
  refine sm_aload_n (pc := 16) dX1_copyFrom_16 rfl 0 rfl ?_
  refine sm_aload_n (pc := 17) dX1_copyFrom_17 rfl 1 rfl ?_
  refine sm_getI (pc := 18) dX1_copyFrom_18 fr_RX1_18 (by decide) rfl (fun v18 => ?_)
  refine sm_putI (pc := 21) dX1_copyFrom_21 fw_RX1_18 (by decide) rfl (fun S21 => ?_)
  refine sm_aload_n (pc := 24) dX1_copyFrom_24 rfl 0 rfl ?_
  refine sm_aload_n (pc := 25) dX1_copyFrom_25 rfl 1 rfl ?_
  refine sm_getI (pc := 26) dX1_copyFrom_26 fr_RX1_21 (by decide) rfl (fun v26 => ?_)
  refine sm_putI (pc := 29) dX1_copyFrom_29 fw_RX1_21 (by decide) rfl (fun S29 => ?_)
  refine sm_iconst (pc := 32) (0 : Int32) dX1_copyFrom_32 (by decide) ?_
  refine sm_istore_n (pc := 33) (lv' := [(2, .int (0 : Int32)), (0, .ref c), (1, .ref a1)]) dX1_copyFrom_33 rfl (by decide) rfl ?_
  refine sm_sub [1, 2, 0] rfl ?_
  exact sL_X1_copyFrom_34 Z  6000 c a1 (0 : Int32) S29
set_option maxRecDepth 20000 in
set_option maxHeartbeats 4000000 in
theorem m_X1_copyFrom (Z : ZT) (l : Launch) (c : Nat) (a1 : Nat) (S : St) {r : Unit} {S' : St} (h : F_X1_copyFrom c a1 S = some (r, S')) : MetX Z l yX1_copyFrom cX1_copyFrom 3 none rm_X1_copyFrom [.ref c, .ref a1] S (eV r) S' := Sim.met (by decide +kernel) rfl (Nat.le_of_ble_eq_true rfl) (s_X1_copyFrom Z c a1 S) l h
set_option maxRecDepth 20000 in
set_option maxHeartbeats 4000000 in
theorem sJ_X1_has_17 (Z : ZT)   (t0 : Int32) (S : St) : Sim eI Z rm_X1_has RX1 cX1_has 2 (some .boolean) 17 [] [.int t0] S (J_X1_has_17  t0 S) := by
  unfold J_X1_has_17
  exact sm_retZ (pc := 17) dX1_has_17
set_option maxRecDepth 20000 in
set_option maxHeartbeats 4000000 in
theorem sJ_X1_has_16 (Z : ZT)    (S : St) : Sim eI Z rm_X1_has RX1 cX1_has 2 (some .boolean) 16 [] [] S (J_X1_has_16  S) := by
  unfold J_X1_has_16
  refine sm_iconst (pc := 16) (0 : Int32) dX1_has_16 (by decide) ?_
  refine sm_sub [] rfl ?_
  exact sJ_X1_has_17 Z  (0 : Int32) S
set_option maxRecDepth 20000 in
set_option maxHeartbeats 4000000 in
theorem s_X1_has (Z : ZT) (c : Nat) (a1 : Int32) (S : St) : Sim eI Z rm_X1_has RX1 cX1_has 2 (some .boolean) 0 [(0, .ref c), (1, .int a1)] [] S (F_X1_has c a1 S) := by
  unfold F_X1_has
  refine sm_iload_n (pc := 0) dX1_has_0 rfl 1 rfl ?_
  refine sm_if_lt 16 (pc := 1) dX1_has_1 rfl ?_ ?_
  · refine sm_sub [] rfl ?_
    exact sJ_X1_has_16 Z  S
  refine sm_iload_n (pc := 4) dX1_has_4 rfl 1 rfl ?_
  refine sm_aload_n (pc := 5) dX1_has_5 rfl 0 rfl ?_
  refine sm_getI (pc := 6) dX1_has_6 fr_RX1_21 (by decide) rfl (fun v6 => ?_)
  refine sm_icmp_ge 16 (pc := 9) dX1_has_9 rfl ?_ ?_
  · refine sm_sub [] rfl ?_
    exact sJ_X1_has_16 Z  S
  refine sm_iconst (pc := 12) (1 : Int32) dX1_has_12 (by decide) ?_
  refine sm_goto 17 (pc := 13) dX1_has_13 rfl ?_
  refine sm_sub [] rfl ?_
  exact sJ_X1_has_17 Z  (1 : Int32) S
set_option maxRecDepth 20000 in
set_option maxHeartbeats 4000000 in
theorem m_X1_has (Z : ZT) (l : Launch) (c : Nat) (a1 : Int32) (S : St) {r : Int32} {S' : St} (h : F_X1_has c a1 S = some (r, S')) : MetX Z l yX1_has cX1_has 2 (some .boolean) rm_X1_has [.ref c, .int a1] S (eI r) S' := Sim.met (by decide +kernel) rfl (Nat.le_of_ble_eq_true rfl) (s_X1_has Z c a1 S) l h
set_option maxRecDepth 20000 in
set_option maxHeartbeats 4000000 in
theorem sJ_X7_isWithin_15 (Z : ZT)   (t0 : Int32) (S : St) : Sim eI Z rm_X7_isWithin RX7 cX7_isWithin 3 (some .boolean) 15 [] [.int t0] S (J_X7_isWithin_15  t0 S) := by
  unfold J_X7_isWithin_15
  exact sm_retZ (pc := 15) dX7_isWithin_15
set_option maxRecDepth 20000 in
set_option maxHeartbeats 4000000 in
theorem sJ_X7_isWithin_14 (Z : ZT)    (S : St) : Sim eI Z rm_X7_isWithin RX7 cX7_isWithin 3 (some .boolean) 14 [] [] S (J_X7_isWithin_14  S) := by
  unfold J_X7_isWithin_14
  refine sm_iconst (pc := 14) (0 : Int32) dX7_isWithin_14 (by decide) ?_
  refine sm_sub [] rfl ?_
  exact sJ_X7_isWithin_15 Z  (0 : Int32) S
set_option maxRecDepth 20000 in
set_option maxHeartbeats 4000000 in
theorem s_X7_isWithin (Z : ZT) (a1 : Int32) (a2 : Int32) (a3 : Int32) (S : St) : Sim eI Z rm_X7_isWithin RX7 cX7_isWithin 3 (some .boolean) 0 [(0, .int a1), (1, .int a2), (2, .int a3)] [] S (F_X7_isWithin a1 a2 a3 S) := by
  unfold F_X7_isWithin
  refine sm_iload_n (pc := 0) dX7_isWithin_0 rfl 0 rfl ?_
  refine sm_iload_n (pc := 1) dX7_isWithin_1 rfl 1 rfl ?_
  refine sm_icmp_lt 14 (pc := 2) dX7_isWithin_2 rfl ?_ ?_
  · refine sm_sub [] rfl ?_
    exact sJ_X7_isWithin_14 Z  S
  refine sm_iload_n (pc := 5) dX7_isWithin_5 rfl 0 rfl ?_
  refine sm_iload_n (pc := 6) dX7_isWithin_6 rfl 2 rfl ?_
  refine sm_icmp_gt 14 (pc := 7) dX7_isWithin_7 rfl ?_ ?_
  · refine sm_sub [] rfl ?_
    exact sJ_X7_isWithin_14 Z  S
  refine sm_iconst (pc := 10) (1 : Int32) dX7_isWithin_10 (by decide) ?_
  refine sm_goto 15 (pc := 11) dX7_isWithin_11 rfl ?_
  refine sm_sub [] rfl ?_
  exact sJ_X7_isWithin_15 Z  (1 : Int32) S
set_option maxRecDepth 20000 in
set_option maxHeartbeats 4000000 in
theorem m_X7_isWithin (Z : ZT) (l : Launch) (a1 : Int32) (a2 : Int32) (a3 : Int32) (S : St) {r : Int32} {S' : St} (h : F_X7_isWithin a1 a2 a3 S = some (r, S')) : MetX Z l yX7_isWithin cX7_isWithin 3 (some .boolean) rm_X7_isWithin [.int a1, .int a2, .int a3] S (eI r) S' := Sim.met (by decide +kernel) rfl (Nat.le_of_ble_eq_true rfl) (s_X7_isWithin Z a1 a2 a3 S) l h
set_option maxRecDepth 20000 in
set_option maxHeartbeats 4000000 in
theorem s_X7_isRate (Z : ZT) (a1 : Int32) (S : St) : Sim eI Z rm_X7_isRate RX7 cX7_isRate 1 (some .boolean) 0 [(0, .int a1)] [] S (F_X7_isRate a1 S) := by
  unfold F_X7_isRate
  refine sm_iload_n (pc := 0) dX7_isRate_0 rfl 0 rfl ?_
  refine sm_iconst (pc := 1) (0 : Int32) dX7_isRate_1 (by decide) ?_
  refine sm_sipush (pc := 2) (5000 : Int32) dX7_isRate_2 (by decide) ?_
  refine sm_callSI (pc := 5) [.int a1, .int (0 : Int32), .int (5000 : Int32)] (fun lq rq Sq hq => m_X7_isWithin Z lq a1 (0 : Int32) (5000 : Int32) S hq) dX7_isRate_5 mi_X7_isWithin ml_RX7_67 ⟨Nat.le_of_ble_eq_true rfl, Nat.le_of_ble_eq_true rfl, rfl, rfl⟩ rfl (Nat.le_of_ble_eq_true rfl) rfl (fun r5 S5 => ?_)
  exact sm_retZ (pc := 8) dX7_isRate_8
set_option maxRecDepth 20000 in
set_option maxHeartbeats 4000000 in
theorem m_X7_isRate (Z : ZT) (l : Launch) (a1 : Int32) (S : St) {r : Int32} {S' : St} (h : F_X7_isRate a1 S = some (r, S')) : MetX Z l yX7_isRate cX7_isRate 1 (some .boolean) rm_X7_isRate [.int a1] S (eI r) S' := Sim.met (by decide +kernel) rfl (Nat.le_of_ble_eq_true rfl) (s_X7_isRate Z a1 S) l h
set_option maxRecDepth 20000 in
set_option maxHeartbeats 4000000 in
theorem sJ_X2_monthOf_76 (Z : ZT) (rec53 : (Int32 → Int32 → Int32 → Int32 → St → Option (Int32 × St))) (h53 : ∀ (x1 : Int32) (x2 : Int32) (x3 : Int32) (x4 : Int32)  (S : St), Sim eI Z rm_X2_monthOf RX2 cX2_monthOf 5 (some .int) 53 [(1, .int x1), (2, .int x2), (3, .int x3), (4, .int x4)] [] S (rec53 x1 x2 x3 x4 S)) (x1 : Int32) (x2 : Int32) (x3 : Int32) (x4 : Int32) (t0 : Int32) (t1 : Int32) (t2 : Int32) (S : St) : Sim eI Z rm_X2_monthOf RX2 cX2_monthOf 5 (some .int) 76 [(1, .int x1), (2, .int x2), (3, .int x3), (4, .int x4)] [.int t0, .int t1, .int t2] S (J_X2_monthOf_76 rec53 x1 x2 x3 x4 t0 t1 t2 S) := by
  unfold J_X2_monthOf_76
  refine sm_iadd (pc := 76) dX2_monthOf_76 ?_
  refine sm_icmp_lt 88 (pc := 77) dX2_monthOf_77 rfl ?_ ?_
  · refine sm_iinc (pc := 88) (x4 + (-1)) (lv' := [(4, .int (x4 + (-1))), (1, .int x1), (2, .int x2), (3, .int x3)]) dX2_monthOf_88 3 rfl rfl (by decide) rfl ?_
    refine sm_goto 53 (pc := 91) dX2_monthOf_91 rfl ?_
    refine sm_sub [1, 2, 3, 0] rfl ?_
    exact h53 x1 x2 x3 (x4 + (-1)) S
  refine sm_iload_n (pc := 80) dX2_monthOf_80 rfl 0 rfl ?_
  refine sm_bipush (pc := 81) (12 : Int32) dX2_monthOf_81 (by decide) ?_
  refine sm_imul (pc := 83) dX2_monthOf_83 ?_
  refine sm_iload (pc := 84) dX2_monthOf_84 3 rfl ?_
  refine sm_iadd (pc := 86) dX2_monthOf_86 ?_
  exact sm_retI (pc := 87) dX2_monthOf_87
set_option maxRecDepth 20000 in
set_option maxHeartbeats 4000000 in
theorem sB_X2_monthOf_53 (Z : ZT) (rec53 : (Int32 → Int32 → Int32 → Int32 → St → Option (Int32 × St))) (h53 : ∀ (x1 : Int32) (x2 : Int32) (x3 : Int32) (x4 : Int32)  (S : St), Sim eI Z rm_X2_monthOf RX2 cX2_monthOf 5 (some .int) 53 [(1, .int x1), (2, .int x2), (3, .int x3), (4, .int x4)] [] S (rec53 x1 x2 x3 x4 S)) (x1 : Int32) (x2 : Int32) (x3 : Int32) (x4 : Int32)  (S : St) : Sim eI Z rm_X2_monthOf RX2 cX2_monthOf 5 (some .int) 53 [(1, .int x1), (2, .int x2), (3, .int x3), (4, .int x4)] [] S (B_X2_monthOf_53 rec53 x1 x2 x3 x4 S) := by
  unfold B_X2_monthOf_53
  refine sm_iload (pc := 53) dX2_monthOf_53 3 rfl ?_
  refine sm_if_le 94 (pc := 55) dX2_monthOf_55 rfl ?_ ?_
  · refine sm_iload_n (pc := 94) dX2_monthOf_94 rfl 0 rfl ?_
    refine sm_bipush (pc := 95) (12 : Int32) dX2_monthOf_95 (by decide) ?_
    refine sm_imul (pc := 97) dX2_monthOf_97 ?_
    exact sm_retI (pc := 98) dX2_monthOf_98
  refine sm_iload_n (pc := 58) dX2_monthOf_58 rfl 1 rfl ?_
  refine sm_gs (pc := 59) dX2_monthOf_59 gs_RX2_9 ?_
  refine sm_iload (pc := 62) dX2_monthOf_62 3 rfl ?_
  refine sm_aT (pc := 64) dX2_monthOf_64 (fun v64 => ?_)
  refine sm_iload (pc := 65) dX2_monthOf_65 3 rfl ?_
  refine sm_iconst (pc := 67) (2 : Int32) dX2_monthOf_67 (by decide) ?_
  refine sm_icmp_lt 75 (pc := 68) dX2_monthOf_68 rfl ?_ ?_
  · refine sm_iconst (pc := 75) (0 : Int32) dX2_monthOf_75 (by decide) ?_
    refine sm_sub [0, 1, 2, 3] rfl ?_
    exact sJ_X2_monthOf_76 Z rec53 h53 x1 x2 x3 x4 (0 : Int32) v64 x2 S
  refine sm_iload_n (pc := 71) dX2_monthOf_71 rfl 2 rfl ?_
  refine sm_goto 76 (pc := 72) dX2_monthOf_72 rfl ?_
  refine sm_sub [0, 1, 2, 3] rfl ?_
  exact sJ_X2_monthOf_76 Z rec53 h53 x1 x2 x3 x4 x3 v64 x2 S
set_option maxRecDepth 20000 in
set_option maxHeartbeats 4000000 in
theorem sL_X2_monthOf_53 (Z : ZT)  (n : Nat) : ∀ (x1 : Int32) (x2 : Int32) (x3 : Int32) (x4 : Int32)  (S : St), Sim eI Z rm_X2_monthOf RX2 cX2_monthOf 5 (some .int) 53 [(1, .int x1), (2, .int x2), (3, .int x3), (4, .int x4)] [] S (L_X2_monthOf_53  n x1 x2 x3 x4 S) := by
  induction n with
  | zero => intros; exact sm_none
  | succ n ih => intro x1 x2 x3 x4 S; exact sB_X2_monthOf_53 Z  (L_X2_monthOf_53  n) ih x1 x2 x3 x4 S
set_option maxRecDepth 20000 in
set_option maxHeartbeats 4000000 in
theorem sJ_X2_monthOf_49 (Z : ZT)  (x1 : Int32) (x2 : Int32) (x3 : Int32)  (S : St) : Sim eI Z rm_X2_monthOf RX2 cX2_monthOf 5 (some .int) 49 [(1, .int x1), (2, .int x2), (3, .int x3)] [] S (J_X2_monthOf_49  x1 x2 x3 S) := by
  unfold J_X2_monthOf_49
  refine sm_bipush (pc := 49) (11 : Int32) dX2_monthOf_49 (by decide) ?_
  refine sm_istore (pc := 51) (lv' := [(4, .int (11 : Int32)), (1, .int x1), (2, .int x2), (3, .int x3)]) dX2_monthOf_51 (by decide) rfl ?_
  refine sm_sub [1, 2, 3, 0] rfl ?_
  exact sL_X2_monthOf_53 Z  6000 x1 x2 x3 (11 : Int32) S
set_option maxRecDepth 20000 in
set_option maxHeartbeats 4000000 in
theorem s_X2_monthOf (Z : ZT) (a1 : Int32) (S : St) : Sim eI Z rm_X2_monthOf RX2 cX2_monthOf 5 (some .int) 0 [(0, .int a1)] [] S (F_X2_monthOf a1 S) := by
  unfold F_X2_monthOf
  refine sm_iload_n (pc := 0) dX2_monthOf_0 rfl 0 rfl ?_
  refine sm_sipush (pc := 1) (1461 : Int32) dX2_monthOf_1 (by decide) ?_
  refine sm_idivc (pc := 4) dX2_monthOf_4 (by decide) ?_
  refine sm_iconst (pc := 5) (4 : Int32) dX2_monthOf_5 (by decide) ?_
  refine sm_imul (pc := 6) dX2_monthOf_6 ?_
  refine sm_bdI (fun v7 => ?_)
  refine sm_istore_n (pc := 7) (lv' := [(1, .int v7), (0, .int a1)]) dX2_monthOf_7 rfl (by decide) rfl ?_
  refine sm_iload_n (pc := 8) dX2_monthOf_8 rfl 1 rfl ?_
  refine sm_sipush (pc := 9) (1461 : Int32) dX2_monthOf_9 (by decide) ?_
  refine sm_iremc (pc := 12) dX2_monthOf_12 (by decide) ?_
  refine sm_bdI (fun v13 => ?_)
  refine sm_istore_n (pc := 13) (lv' := [(2, .int v13), (1, .int v7), (0, .int a1)]) dX2_monthOf_13 rfl (by decide) rfl ?_
  refine sm_iconst (pc := 14) (1 : Int32) dX2_monthOf_14 (by decide) ?_
  refine sm_istore_n (pc := 15) (lv' := [(3, .int (1 : Int32)), (2, .int v13), (1, .int v7), (0, .int a1)]) dX2_monthOf_15 rfl (by decide) rfl ?_
  refine sm_iload_n (pc := 16) dX2_monthOf_16 rfl 1 rfl ?_
  refine sm_sipush (pc := 17) (366 : Int32) dX2_monthOf_17 (by decide) ?_
  refine sm_icmp_lt 49 (pc := 20) dX2_monthOf_20 rfl ?_ ?_
  · refine sm_sub [2, 1, 0] rfl ?_
    exact sJ_X2_monthOf_49 Z  v7 v13 (1 : Int32) S
  refine sm_iload_n (pc := 23) dX2_monthOf_23 rfl 2 rfl ?_
  refine sm_iconst (pc := 24) (1 : Int32) dX2_monthOf_24 (by decide) ?_
  refine sm_iload_n (pc := 25) dX2_monthOf_25 rfl 1 rfl ?_
  refine sm_sipush (pc := 26) (366 : Int32) dX2_monthOf_26 (by decide) ?_
  refine sm_isub (pc := 29) dX2_monthOf_29 ?_
  refine sm_sipush (pc := 30) (365 : Int32) dX2_monthOf_30 (by decide) ?_
  refine sm_idivc (pc := 33) dX2_monthOf_33 (by decide) ?_
  refine sm_iadd (pc := 34) dX2_monthOf_34 ?_
  refine sm_iadd (pc := 35) dX2_monthOf_35 ?_
  refine sm_bdI (fun v36 => ?_)
  refine sm_istore_n (pc := 36) (lv' := [(1, .int v36), (3, .int (1 : Int32)), (2, .int v13), (0, .int a1)]) dX2_monthOf_36 rfl (by decide) rfl ?_
  refine sm_iload_n (pc := 37) dX2_monthOf_37 rfl 2 rfl ?_
  refine sm_sipush (pc := 38) (366 : Int32) dX2_monthOf_38 (by decide) ?_
  refine sm_isub (pc := 41) dX2_monthOf_41 ?_
  refine sm_sipush (pc := 42) (365 : Int32) dX2_monthOf_42 (by decide) ?_
  refine sm_iremc (pc := 45) dX2_monthOf_45 (by decide) ?_
  refine sm_bdI (fun v46 => ?_)
  refine sm_istore_n (pc := 46) (lv' := [(2, .int v46), (1, .int v36), (3, .int (1 : Int32)), (0, .int a1)]) dX2_monthOf_46 rfl (by decide) rfl ?_
  refine sm_iconst (pc := 47) (0 : Int32) dX2_monthOf_47 (by decide) ?_
  refine sm_istore_n (pc := 48) (lv' := [(3, .int (0 : Int32)), (2, .int v46), (1, .int v36), (0, .int a1)]) dX2_monthOf_48 rfl (by decide) rfl ?_
  refine sm_sub [2, 1, 0] rfl ?_
  exact sJ_X2_monthOf_49 Z  v36 v46 (0 : Int32) S
set_option maxRecDepth 20000 in
set_option maxHeartbeats 4000000 in
theorem m_X2_monthOf (Z : ZT) (l : Launch) (a1 : Int32) (S : St) {r : Int32} {S' : St} (h : F_X2_monthOf a1 S = some (r, S')) : MetX Z l yX2_monthOf cX2_monthOf 5 (some .int) rm_X2_monthOf [.int a1] S (eI r) S' := Sim.met (by decide +kernel) rfl (Nat.le_of_ble_eq_true rfl) (s_X2_monthOf Z a1 S) l h
set_option maxRecDepth 20000 in
set_option maxHeartbeats 4000000 in
theorem sJ_J9_floorMod_7cf53_18 (Z : ZT)  (x2 : Int32)  (S : St) : Sim eI Z rm_J9_floorMod_7cf53 RJ9 cJ9_floorMod_7cf53 3 (some .int) 18 [(2, .int x2)] [] S (J_J9_floorMod_7cf53_18  x2 S) := by
  unfold J_J9_floorMod_7cf53_18
  refine sm_iload_n (pc := 18) dJ9_floorMod_7cf53_18 rfl 0 rfl ?_
  exact sm_retI (pc := 19) dJ9_floorMod_7cf53_19
set_option maxRecDepth 20000 in
set_option maxHeartbeats 4000000 in
theorem s_J9_floorMod_7cf53 (Z : ZT) (a1 : Int32) (a2 : Int32) (S : St) : Sim eI Z rm_J9_floorMod_7cf53 RJ9 cJ9_floorMod_7cf53 3 (some .int) 0 [(0, .int a1), (1, .int a2)] [] S (F_J9_floorMod_7cf53 a1 a2 S) := by
  unfold F_J9_floorMod_7cf53
  refine sm_iload_n (pc := 0) dJ9_floorMod_7cf53_0 rfl 0 rfl ?_
  refine sm_iload_n (pc := 1) dJ9_floorMod_7cf53_1 rfl 1 rfl ?_
  refine sm_irem (pc := 2) dJ9_floorMod_7cf53_2 ?_
  refine sm_bdI (fun v3 => ?_)
  refine sm_istore_n (pc := 3) (lv' := [(2, .int v3), (0, .int a1), (1, .int a2)]) dJ9_floorMod_7cf53_3 rfl (by decide) rfl ?_
  refine sm_iload_n (pc := 4) dJ9_floorMod_7cf53_4 rfl 1 rfl ?_
  refine sm_iload_n (pc := 5) dJ9_floorMod_7cf53_5 rfl 2 rfl ?_
  refine sm_ixor (pc := 6) dJ9_floorMod_7cf53_6 ?_
  refine sm_if_ge 18 (pc := 7) dJ9_floorMod_7cf53_7 rfl ?_ ?_
  · refine sm_sub [0] rfl ?_
    exact sJ_J9_floorMod_7cf53_18 Z  v3 S
  refine sm_iload_n (pc := 10) dJ9_floorMod_7cf53_10 rfl 0 rfl ?_
  refine sm_if_eq 18 (pc := 11) dJ9_floorMod_7cf53_11 rfl ?_ ?_
  · refine sm_sub [0] rfl ?_
    exact sJ_J9_floorMod_7cf53_18 Z  v3 S
  refine sm_iload_n (pc := 14) dJ9_floorMod_7cf53_14 rfl 0 rfl ?_
  refine sm_iload_n (pc := 15) dJ9_floorMod_7cf53_15 rfl 2 rfl ?_
  refine sm_iadd (pc := 16) dJ9_floorMod_7cf53_16 ?_
  exact sm_retI (pc := 17) dJ9_floorMod_7cf53_17
set_option maxRecDepth 20000 in
set_option maxHeartbeats 4000000 in
theorem m_J9_floorMod_7cf53 (Z : ZT) (l : Launch) (a1 : Int32) (a2 : Int32) (S : St) {r : Int32} {S' : St} (h : F_J9_floorMod_7cf53 a1 a2 S = some (r, S')) : MetX Z l yJ9_floorMod_7cf53 cJ9_floorMod_7cf53 3 (some .int) rm_J9_floorMod_7cf53 [.int a1, .int a2] S (eI r) S' := Sim.met (by decide +kernel) rfl (Nat.le_of_ble_eq_true rfl) (s_J9_floorMod_7cf53 Z a1 a2 S) l h
set_option maxRecDepth 20000 in
set_option maxHeartbeats 4000000 in
theorem sJ_X2_firstOf_28 (Z : ZT)  (x0 : Int32) (x1 : Int32) (x2 : Int32)  (S : St) : Sim eI Z rm_X2_firstOf RX2 cX2_firstOf 3 (some .int) 28 [(0, .int x0), (1, .int x1), (2, .int x2)] [] S (J_X2_firstOf_28  x0 x1 x2 S) := by
  unfold J_X2_firstOf_28
  refine sm_iload_n (pc := 28) dX2_firstOf_28 rfl 1 rfl ?_
  refine sm_sipush (pc := 29) (365 : Int32) dX2_firstOf_29 (by decide) ?_
  refine sm_imul (pc := 32) dX2_firstOf_32 ?_
  refine sm_iload_n (pc := 33) dX2_firstOf_33 rfl 2 rfl ?_
  refine sm_iadd (pc := 34) dX2_firstOf_34 ?_
  refine sm_gs (pc := 35) dX2_firstOf_35 gs_RX2_9 ?_
  refine sm_iload_n (pc := 38) dX2_firstOf_38 rfl 0 rfl ?_
  refine sm_bipush (pc := 39) (12 : Int32) dX2_firstOf_39 (by decide) ?_
  refine sm_callSI (pc := 41) [.int x0, .int (12 : Int32)] (fun lq rq Sq hq => m_J9_floorMod_7cf53 Z lq x0 (12 : Int32) S hq) dX2_firstOf_41 mi_J9_floorMod_7cf53 ml_RX2_13 ⟨Nat.le_of_ble_eq_true rfl, Nat.le_of_ble_eq_true rfl, rfl, rfl⟩ rfl (Nat.le_of_ble_eq_true rfl) rfl (fun r41 S41 => ?_)
  refine sm_aT (pc := 44) dX2_firstOf_44 (fun v44 => ?_)
  refine sm_iadd (pc := 45) dX2_firstOf_45 ?_
  exact sm_retI (pc := 46) dX2_firstOf_46
set_option maxRecDepth 20000 in
set_option maxHeartbeats 4000000 in
theorem s_X2_firstOf (Z : ZT) (a1 : Int32) (S : St) : Sim eI Z rm_X2_firstOf RX2 cX2_firstOf 3 (some .int) 0 [(0, .int a1)] [] S (F_X2_firstOf a1 S) := by
  unfold F_X2_firstOf
  refine sm_iload_n (pc := 0) dX2_firstOf_0 rfl 0 rfl ?_
  refine sm_bipush (pc := 1) (12 : Int32) dX2_firstOf_1 (by decide) ?_
  refine sm_idivc (pc := 3) dX2_firstOf_3 (by decide) ?_
  refine sm_bdI (fun v4 => ?_)
  refine sm_istore_n (pc := 4) (lv' := [(1, .int v4), (0, .int a1)]) dX2_firstOf_4 rfl (by decide) rfl ?_
  refine sm_iload_n (pc := 5) dX2_firstOf_5 rfl 0 rfl ?_
  refine sm_iconst (pc := 6) (3 : Int32) dX2_firstOf_6 (by decide) ?_
  refine sm_iadd (pc := 7) dX2_firstOf_7 ?_
  refine sm_iconst (pc := 8) (4 : Int32) dX2_firstOf_8 (by decide) ?_
  refine sm_idivc (pc := 9) dX2_firstOf_9 (by decide) ?_
  refine sm_bdI (fun v10 => ?_)
  refine sm_istore_n (pc := 10) (lv' := [(2, .int v10), (1, .int v4), (0, .int a1)]) dX2_firstOf_10 rfl (by decide) rfl ?_
  refine sm_iload_n (pc := 11) dX2_firstOf_11 rfl 1 rfl ?_
  refine sm_iconst (pc := 12) (4 : Int32) dX2_firstOf_12 (by decide) ?_
  refine sm_iremc (pc := 13) dX2_firstOf_13 (by decide) ?_
  refine sm_if_ne 28 (pc := 14) dX2_firstOf_14 rfl ?_ ?_
  · refine sm_sub [2, 1, 0] rfl ?_
    exact sJ_X2_firstOf_28 Z  a1 v4 v10 S
  refine sm_iload_n (pc := 17) dX2_firstOf_17 rfl 2 rfl ?_
  refine sm_bipush (pc := 18) (12 : Int32) dX2_firstOf_18 (by decide) ?_
  refine sm_iremc (pc := 20) dX2_firstOf_20 (by decide) ?_
  refine sm_iconst (pc := 21) (2 : Int32) dX2_firstOf_21 (by decide) ?_
  refine sm_icmp_lt 28 (pc := 22) dX2_firstOf_22 rfl ?_ ?_
  · refine sm_sub [2, 1, 0] rfl ?_
    exact sJ_X2_firstOf_28 Z  a1 v4 v10 S
  refine sm_iinc (pc := 25) (v10 + 1) (lv' := [(2, .int (v10 + 1)), (1, .int v4), (0, .int a1)]) dX2_firstOf_25 0 rfl rfl (by decide) rfl ?_
  refine sm_sub [2, 1, 0] rfl ?_
  exact sJ_X2_firstOf_28 Z  a1 v4 (v10 + 1) S
set_option maxRecDepth 20000 in
set_option maxHeartbeats 4000000 in
theorem m_X2_firstOf (Z : ZT) (l : Launch) (a1 : Int32) (S : St) {r : Int32} {S' : St} (h : F_X2_firstOf a1 S = some (r, S')) : MetX Z l yX2_firstOf cX2_firstOf 3 (some .int) rm_X2_firstOf [.int a1] S (eI r) S' := Sim.met (by decide +kernel) rfl (Nat.le_of_ble_eq_true rfl) (s_X2_firstOf Z a1 S) l h
set_option maxRecDepth 20000 in
set_option maxHeartbeats 4000000 in
theorem sB_X4_clearArrears_2 (Z : ZT) (rec2 : (Nat → Int32 → St → Option (Unit × St))) (h2 : ∀ (x0 : Nat) (x1 : Int32)  (S : St), Sim eV Z rm_X4_clearArrears RX4 cX4_clearArrears 2 none 2 [(0, .ref x0), (1, .int x1)] [] S (rec2 x0 x1 S)) (x0 : Nat) (x1 : Int32)  (S : St) : Sim eV Z rm_X4_clearArrears RX4 cX4_clearArrears 2 none 2 [(0, .ref x0), (1, .int x1)] [] S (B_X4_clearArrears_2 rec2 x0 x1 S) := by
  unfold B_X4_clearArrears_2
  refine sm_iload_n (pc := 2) dX4_clearArrears_2 rfl 1 rfl ?_
  refine sm_bipush (pc := 3) (60 : Int32) dX4_clearArrears_3 (by decide) ?_
  refine sm_icmp_gt 42 (pc := 5) dX4_clearArrears_5 rfl ?_ ?_
  · exact sm_retV (pc := 42) dX4_clearArrears_42
  refine sm_aload_n (pc := 8) dX4_clearArrears_8 rfl 0 rfl ?_
  refine sm_getR (pc := 9) dX4_clearArrears_9 fr_RX4_19 (by decide) rfl (fun v9 => ?_)
  refine sm_iload_n (pc := 12) dX4_clearArrears_12 rfl 1 rfl ?_
  refine sm_lconst (pc := 13) (0 : Int64) dX4_clearArrears_13 (by decide) ?_
  refine sm_sJ (pc := 14) dX4_clearArrears_14 (fun S14 => ?_)
  refine sm_aload_n (pc := 15) dX4_clearArrears_15 rfl 0 rfl ?_
  refine sm_getR (pc := 16) dX4_clearArrears_16 fr_RX4_22 (by decide) rfl (fun v16 => ?_)
  refine sm_iload_n (pc := 19) dX4_clearArrears_19 rfl 1 rfl ?_
  refine sm_lconst (pc := 20) (0 : Int64) dX4_clearArrears_20 (by decide) ?_
  refine sm_sJ (pc := 21) dX4_clearArrears_21 (fun S21 => ?_)
  refine sm_aload_n (pc := 22) dX4_clearArrears_22 rfl 0 rfl ?_
  refine sm_getR (pc := 23) dX4_clearArrears_23 fr_RX4_25 (by decide) rfl (fun v23 => ?_)
  refine sm_iload_n (pc := 26) dX4_clearArrears_26 rfl 1 rfl ?_
  refine sm_lconst (pc := 27) (0 : Int64) dX4_clearArrears_27 (by decide) ?_
  refine sm_sJ (pc := 28) dX4_clearArrears_28 (fun S28 => ?_)
  refine sm_aload_n (pc := 29) dX4_clearArrears_29 rfl 0 rfl ?_
  refine sm_getR (pc := 30) dX4_clearArrears_30 fr_RX4_28 (by decide) rfl (fun v30 => ?_)
  refine sm_iload_n (pc := 33) dX4_clearArrears_33 rfl 1 rfl ?_
  refine sm_iconst (pc := 34) (0 : Int32) dX4_clearArrears_34 (by decide) ?_
  refine sm_sZ (pc := 35) dX4_clearArrears_35 (fun S35 => ?_)
  refine sm_iinc (pc := 36) (x1 + 1) (lv' := [(1, .int (x1 + 1)), (0, .ref x0)]) dX4_clearArrears_36 1 rfl rfl (by decide) rfl ?_
  refine sm_goto 2 (pc := 39) dX4_clearArrears_39 rfl ?_
  refine sm_sub [1, 0] rfl ?_
  exact h2 x0 (x1 + 1) S35
set_option maxRecDepth 20000 in
set_option maxHeartbeats 4000000 in
theorem sL_X4_clearArrears_2 (Z : ZT)  (n : Nat) : ∀ (x0 : Nat) (x1 : Int32)  (S : St), Sim eV Z rm_X4_clearArrears RX4 cX4_clearArrears 2 none 2 [(0, .ref x0), (1, .int x1)] [] S (L_X4_clearArrears_2  n x0 x1 S) := by
  induction n with
  | zero => intros; exact sm_none
  | succ n ih => intro x0 x1 S; exact sB_X4_clearArrears_2 Z  (L_X4_clearArrears_2  n) ih x0 x1 S
set_option maxRecDepth 20000 in
set_option maxHeartbeats 4000000 in
theorem s_X4_clearArrears (Z : ZT) (c : Nat) (S : St) : Sim eV Z rm_X4_clearArrears RX4 cX4_clearArrears 2 none 0 [(0, .ref c)] [] S (F_X4_clearArrears c S) := by
  unfold F_X4_clearArrears
  refine sm_iconst (pc := 0) (0 : Int32) dX4_clearArrears_0 (by decide) ?_
  refine sm_istore_n (pc := 1) (lv' := [(1, .int (0 : Int32)), (0, .ref c)]) dX4_clearArrears_1 rfl (by decide) rfl ?_
  refine sm_sub [1, 0] rfl ?_
  exact sL_X4_clearArrears_2 Z  6000 c (0 : Int32) S
set_option maxRecDepth 20000 in
set_option maxHeartbeats 4000000 in
theorem m_X4_clearArrears (Z : ZT) (l : Launch) (c : Nat) (S : St) {r : Unit} {S' : St} (h : F_X4_clearArrears c S = some (r, S')) : MetX Z l yX4_clearArrears cX4_clearArrears 2 none rm_X4_clearArrears [.ref c] S (eV r) S' := Sim.met (by decide +kernel) rfl (Nat.le_of_ble_eq_true rfl) (s_X4_clearArrears Z c S) l h
set_option maxRecDepth 20000 in
set_option maxHeartbeats 4000000 in
theorem s_X4_clear (Z : ZT) (c : Nat) (S : St) : Sim eV Z rm_X4_clear RX4 cX4_clear 1 none 0 [(0, .ref c)] [] S (F_X4_clear c S) := by
  unfold F_X4_clear
  refine sm_aload_n (pc := 0) dX4_clear_0 rfl 0 rfl ?_
  refine sm_lconst (pc := 1) (0 : Int64) dX4_clear_1 (by decide) ?_
  refine sm_putL (pc := 2) dX4_clear_2 fw_RX4_39 (by decide) rfl (fun S2 => ?_)
  refine sm_aload_n (pc := 5) dX4_clear_5 rfl 0 rfl ?_
  refine sm_lconst (pc := 6) (0 : Int64) dX4_clear_6 (by decide) ?_
  refine sm_putL (pc := 7) dX4_clear_7 fw_RX4_42 (by decide) rfl (fun S7 => ?_)
  refine sm_aload_n (pc := 10) dX4_clear_10 rfl 0 rfl ?_
  refine sm_lconst (pc := 11) (0 : Int64) dX4_clear_11 (by decide) ?_
  refine sm_putL (pc := 12) dX4_clear_12 fw_RX4_45 (by decide) rfl (fun S12 => ?_)
  refine sm_aload_n (pc := 15) dX4_clear_15 rfl 0 rfl ?_
  refine sm_lconst (pc := 16) (0 : Int64) dX4_clear_16 (by decide) ?_
  refine sm_putL (pc := 17) dX4_clear_17 fw_RX4_48 (by decide) rfl (fun S17 => ?_)
  refine sm_aload_n (pc := 20) dX4_clear_20 rfl 0 rfl ?_
  refine sm_lconst (pc := 21) (0 : Int64) dX4_clear_21 (by decide) ?_
  refine sm_putL (pc := 22) dX4_clear_22 fw_RX4_51 (by decide) rfl (fun S22 => ?_)
  refine sm_aload_n (pc := 25) dX4_clear_25 rfl 0 rfl ?_
  refine sm_iconst (pc := 26) (0 : Int32) dX4_clear_26 (by decide) ?_
  refine sm_putI (pc := 27) dX4_clear_27 fw_RX4_70 (by decide) rfl (fun S27 => ?_)
  refine sm_aload_n (pc := 30) dX4_clear_30 rfl 0 rfl ?_
  refine sm_callVV (pc := 31) [] (fun lq rq Sq hq => m_X4_clearArrears Z lq c S27 hq) dX4_clear_31 mi_X4_clearArrears ml_RX4_79 ⟨Nat.le_of_ble_eq_true rfl, Nat.le_of_ble_eq_true rfl, rfl, rfl⟩ rfl (by decide) rfl (Nat.le_of_ble_eq_true rfl) rfl (fun _ S31 => ?_)
  exact sm_retV (pc := 34) dX4_clear_34
set_option maxRecDepth 20000 in
set_option maxHeartbeats 4000000 in
theorem m_X4_clear (Z : ZT) (l : Launch) (c : Nat) (S : St) {r : Unit} {S' : St} (h : F_X4_clear c S = some (r, S')) : MetX Z l yX4_clear cX4_clear 1 none rm_X4_clear [.ref c] S (eV r) S' := Sim.met (by decide +kernel) rfl (Nat.le_of_ble_eq_true rfl) (s_X4_clear Z c S) l h
set_option maxRecDepth 20000 in
set_option maxHeartbeats 4000000 in
theorem s_X2_lengthOf (Z : ZT) (a1 : Int32) (S : St) : Sim eI Z rm_X2_lengthOf RX2 cX2_lengthOf 1 (some .int) 0 [(0, .int a1)] [] S (F_X2_lengthOf a1 S) := by
  unfold F_X2_lengthOf
  refine sm_iload_n (pc := 0) dX2_lengthOf_0 rfl 0 rfl ?_
  refine sm_iconst (pc := 1) (1 : Int32) dX2_lengthOf_1 (by decide) ?_
  refine sm_iadd (pc := 2) dX2_lengthOf_2 ?_
  refine sm_callSI (pc := 3) [.int (a1 + (1 : Int32))] (fun lq rq Sq hq => m_X2_firstOf Z lq (a1 + (1 : Int32)) S hq) dX2_lengthOf_3 mi_X2_firstOf ml_RX2_19 ⟨Nat.le_of_ble_eq_true rfl, Nat.le_of_ble_eq_true rfl, rfl, rfl⟩ rfl (Nat.le_of_ble_eq_true rfl) rfl (fun r3 S3 => ?_)
  refine sm_iload_n (pc := 6) dX2_lengthOf_6 rfl 0 rfl ?_
  refine sm_callSI (pc := 7) [.int a1] (fun lq rq Sq hq => m_X2_firstOf Z lq a1 S3 hq) dX2_lengthOf_7 mi_X2_firstOf ml_RX2_19 ⟨Nat.le_of_ble_eq_true rfl, Nat.le_of_ble_eq_true rfl, rfl, rfl⟩ rfl (Nat.le_of_ble_eq_true rfl) rfl (fun r7 S7 => ?_)
  refine sm_isub (pc := 10) dX2_lengthOf_10 ?_
  exact sm_retI (pc := 11) dX2_lengthOf_11
set_option maxRecDepth 20000 in
set_option maxHeartbeats 4000000 in
theorem m_X2_lengthOf (Z : ZT) (l : Launch) (a1 : Int32) (S : St) {r : Int32} {S' : St} (h : F_X2_lengthOf a1 S = some (r, S')) : MetX Z l yX2_lengthOf cX2_lengthOf 1 (some .int) rm_X2_lengthOf [.int a1] S (eI r) S' := Sim.met (by decide +kernel) rfl (Nat.le_of_ble_eq_true rfl) (s_X2_lengthOf Z a1 S) l h
set_option maxRecDepth 20000 in
set_option maxHeartbeats 4000000 in
theorem sJ_J9_min_7cf53_10 (Z : ZT)   (t0 : Int32) (S : St) : Sim eI Z rm_J9_min_7cf53 RJ9 cJ9_min_7cf53 2 (some .int) 10 [] [.int t0] S (J_J9_min_7cf53_10  t0 S) := by
  unfold J_J9_min_7cf53_10
  exact sm_retI (pc := 10) dJ9_min_7cf53_10
set_option maxRecDepth 20000 in
set_option maxHeartbeats 4000000 in
theorem s_J9_min_7cf53 (Z : ZT) (a1 : Int32) (a2 : Int32) (S : St) : Sim eI Z rm_J9_min_7cf53 RJ9 cJ9_min_7cf53 2 (some .int) 0 [(0, .int a1), (1, .int a2)] [] S (F_J9_min_7cf53 a1 a2 S) := by
  unfold F_J9_min_7cf53
  refine sm_iload_n (pc := 0) dJ9_min_7cf53_0 rfl 0 rfl ?_
  refine sm_iload_n (pc := 1) dJ9_min_7cf53_1 rfl 1 rfl ?_
  refine sm_icmp_gt 9 (pc := 2) dJ9_min_7cf53_2 rfl ?_ ?_
  · refine sm_iload_n (pc := 9) dJ9_min_7cf53_9 rfl 1 rfl ?_
    refine sm_sub [] rfl ?_
    exact sJ_J9_min_7cf53_10 Z  a2 S
  refine sm_iload_n (pc := 5) dJ9_min_7cf53_5 rfl 0 rfl ?_
  refine sm_goto 10 (pc := 6) dJ9_min_7cf53_6 rfl ?_
  refine sm_sub [] rfl ?_
  exact sJ_J9_min_7cf53_10 Z  a1 S
set_option maxRecDepth 20000 in
set_option maxHeartbeats 4000000 in
theorem m_J9_min_7cf53 (Z : ZT) (l : Launch) (a1 : Int32) (a2 : Int32) (S : St) {r : Int32} {S' : St} (h : F_J9_min_7cf53 a1 a2 S = some (r, S')) : MetX Z l yJ9_min_7cf53 cJ9_min_7cf53 2 (some .int) rm_J9_min_7cf53 [.int a1, .int a2] S (eI r) S' := Sim.met (by decide +kernel) rfl (Nat.le_of_ble_eq_true rfl) (s_J9_min_7cf53 Z a1 a2 S) l h
set_option maxRecDepth 20000 in
set_option maxHeartbeats 4000000 in
theorem s_X2_leapYearDays (Z : ZT) (a1 : Int32) (S : St) : Sim eI Z rm_X2_leapYearDays RX2 cX2_leapYearDays 1 (some .int) 0 [(0, .int a1)] [] S (F_X2_leapYearDays a1 S) := by
  unfold F_X2_leapYearDays
  refine sm_iload_n (pc := 0) dX2_leapYearDays_0 rfl 0 rfl ?_
  refine sm_sipush (pc := 1) (1461 : Int32) dX2_leapYearDays_1 (by decide) ?_
  refine sm_idivc (pc := 4) dX2_leapYearDays_4 (by decide) ?_
  refine sm_sipush (pc := 5) (366 : Int32) dX2_leapYearDays_5 (by decide) ?_
  refine sm_imul (pc := 8) dX2_leapYearDays_8 ?_
  refine sm_sipush (pc := 9) (366 : Int32) dX2_leapYearDays_9 (by decide) ?_
  refine sm_iload_n (pc := 12) dX2_leapYearDays_12 rfl 0 rfl ?_
  refine sm_sipush (pc := 13) (1461 : Int32) dX2_leapYearDays_13 (by decide) ?_
  refine sm_iremc (pc := 16) dX2_leapYearDays_16 (by decide) ?_
  refine sm_callSI (pc := 17) [.int (366 : Int32), .int (a1 - a1 / (1461 : Int32) * (1461 : Int32))] (fun lq rq Sq hq => m_J9_min_7cf53 Z lq (366 : Int32) (a1 - a1 / (1461 : Int32) * (1461 : Int32)) S hq) dX2_leapYearDays_17 mi_J9_min_7cf53 ml_RX2_44 ⟨Nat.le_of_ble_eq_true rfl, Nat.le_of_ble_eq_true rfl, rfl, rfl⟩ rfl (Nat.le_of_ble_eq_true rfl) rfl (fun r17 S17 => ?_)
  refine sm_iadd (pc := 20) dX2_leapYearDays_20 ?_
  exact sm_retI (pc := 21) dX2_leapYearDays_21
set_option maxRecDepth 20000 in
set_option maxHeartbeats 4000000 in
theorem m_X2_leapYearDays (Z : ZT) (l : Launch) (a1 : Int32) (S : St) {r : Int32} {S' : St} (h : F_X2_leapYearDays a1 S = some (r, S')) : MetX Z l yX2_leapYearDays cX2_leapYearDays 1 (some .int) rm_X2_leapYearDays [.int a1] S (eI r) S' := Sim.met (by decide +kernel) rfl (Nat.le_of_ble_eq_true rfl) (s_X2_leapYearDays Z a1 S) l h
set_option maxRecDepth 20000 in
set_option maxHeartbeats 4000000 in
theorem s_X2_thirties (Z : ZT) (a1 : Int32) (S : St) : Sim eI Z rm_X2_thirties RX2 cX2_thirties 2 (some .int) 0 [(0, .int a1)] [] S (F_X2_thirties a1 S) := by
  unfold F_X2_thirties
  refine sm_iload_n (pc := 0) dX2_thirties_0 rfl 0 rfl ?_
  refine sm_callSI (pc := 1) [.int a1] (fun lq rq Sq hq => m_X2_monthOf Z lq a1 S hq) dX2_thirties_1 mi_X2_monthOf ml_RX2_41 ⟨Nat.le_of_ble_eq_true rfl, Nat.le_of_ble_eq_true rfl, rfl, rfl⟩ rfl (Nat.le_of_ble_eq_true rfl) rfl (fun r1 S1 => ?_)
  refine sm_istore_n (pc := 4) (lv' := [(1, .int r1), (0, .int a1)]) dX2_thirties_4 rfl (by decide) rfl ?_
  refine sm_iload_n (pc := 5) dX2_thirties_5 rfl 0 rfl ?_
  refine sm_bipush (pc := 6) (30 : Int32) dX2_thirties_6 (by decide) ?_
  refine sm_imul (pc := 8) dX2_thirties_8 ?_
  refine sm_bipush (pc := 9) (30 : Int32) dX2_thirties_9 (by decide) ?_
  refine sm_iconst (pc := 11) (1 : Int32) dX2_thirties_11 (by decide) ?_
  refine sm_iload_n (pc := 12) dX2_thirties_12 rfl 1 rfl ?_
  refine sm_iadd (pc := 13) dX2_thirties_13 ?_
  refine sm_iload_n (pc := 14) dX2_thirties_14 rfl 0 rfl ?_
  refine sm_callSI (pc := 15) [.int r1] (fun lq rq Sq hq => m_X2_firstOf Z lq r1 S1 hq) dX2_thirties_15 mi_X2_firstOf ml_RX2_19 ⟨Nat.le_of_ble_eq_true rfl, Nat.le_of_ble_eq_true rfl, rfl, rfl⟩ rfl (Nat.le_of_ble_eq_true rfl) rfl (fun r15 S15 => ?_)
  refine sm_isub (pc := 18) dX2_thirties_18 ?_
  refine sm_callSI (pc := 19) [.int (30 : Int32), .int (((1 : Int32) + a1) - r15)] (fun lq rq Sq hq => m_J9_min_7cf53 Z lq (30 : Int32) (((1 : Int32) + a1) - r15) S15 hq) dX2_thirties_19 mi_J9_min_7cf53 ml_RX2_44 ⟨Nat.le_of_ble_eq_true rfl, Nat.le_of_ble_eq_true rfl, rfl, rfl⟩ rfl (Nat.le_of_ble_eq_true rfl) rfl (fun r19 S19 => ?_)
  refine sm_iadd (pc := 22) dX2_thirties_22 ?_
  exact sm_retI (pc := 23) dX2_thirties_23
set_option maxRecDepth 20000 in
set_option maxHeartbeats 4000000 in
theorem m_X2_thirties (Z : ZT) (l : Launch) (a1 : Int32) (S : St) {r : Int32} {S' : St} (h : F_X2_thirties a1 S = some (r, S')) : MetX Z l yX2_thirties cX2_thirties 2 (some .int) rm_X2_thirties [.int a1] S (eI r) S' := Sim.met (by decide +kernel) rfl (Nat.le_of_ble_eq_true rfl) (s_X2_thirties Z a1 S) l h
set_option maxRecDepth 20000 in
set_option maxHeartbeats 4000000 in
theorem s_X2_partsBetween (Z : ZT) (a1 : Int32) (a2 : Int32) (a3 : Int32) (S : St) : Sim eL Z rm_X2_partsBetween RX2 cX2_partsBetween 5 (some .long) 0 [(0, .int a1), (1, .int a2), (2, .int a3)] [] S (F_X2_partsBetween a1 a2 a3 S) := by
  unfold F_X2_partsBetween
  refine sm_iload_n (pc := 0) dX2_partsBetween_0 rfl 0 rfl ?_
  refine sm_if_ne 15 (pc := 1) dX2_partsBetween_1 rfl ?_ ?_
  · refine sm_iload_n (pc := 15) dX2_partsBetween_15 rfl 0 rfl ?_
    refine sm_iconst (pc := 16) (3 : Int32) dX2_partsBetween_16 (by decide) ?_
    refine sm_icmp_ge 25 (pc := 17) dX2_partsBetween_17 rfl ?_ ?_
    · refine sm_iload_n (pc := 25) dX2_partsBetween_25 rfl 2 rfl ?_
      refine sm_callSI (pc := 26) [.int a3] (fun lq rq Sq hq => m_X2_leapYearDays Z lq a3 S hq) dX2_partsBetween_26 mi_X2_leapYearDays ml_RX2_26 ⟨Nat.le_of_ble_eq_true rfl, Nat.le_of_ble_eq_true rfl, rfl, rfl⟩ rfl (Nat.le_of_ble_eq_true rfl) rfl (fun r26 S26 => ?_)
      refine sm_iload_n (pc := 29) dX2_partsBetween_29 rfl 1 rfl ?_
      refine sm_callSI (pc := 30) [.int a2] (fun lq rq Sq hq => m_X2_leapYearDays Z lq a2 S26 hq) dX2_partsBetween_30 mi_X2_leapYearDays ml_RX2_26 ⟨Nat.le_of_ble_eq_true rfl, Nat.le_of_ble_eq_true rfl, rfl, rfl⟩ rfl (Nat.le_of_ble_eq_true rfl) rfl (fun r30 S30 => ?_)
      refine sm_isub (pc := 33) dX2_partsBetween_33 ?_
      refine sm_i2l (pc := 34) dX2_partsBetween_34 ?_
      refine sm_bdJ (fun v35 => ?_)
      refine sm_lstore_n (pc := 35) (lv' := [(3, .long v35), (0, .int a1), (1, .int a2), (2, .int a3)]) dX2_partsBetween_35 rfl (by decide) rfl ?_
      refine sm_lload_n (pc := 36) dX2_partsBetween_36 rfl 0 rfl ?_
      refine sm_ldc2 (pc := 37) (365 : Int64) dX2_partsBetween_37 kc_RX2_29 ?_
      refine sm_lmul (pc := 40) dX2_partsBetween_40 ?_
      refine sm_iload_n (pc := 41) dX2_partsBetween_41 rfl 3 rfl ?_
      refine sm_iload_n (pc := 42) dX2_partsBetween_42 rfl 2 rfl ?_
      refine sm_isub (pc := 43) dX2_partsBetween_43 ?_
      refine sm_i2l (pc := 44) dX2_partsBetween_44 ?_
      refine sm_lload_n (pc := 45) dX2_partsBetween_45 rfl 0 rfl ?_
      refine sm_lsub (pc := 46) dX2_partsBetween_46 ?_
      refine sm_ldc2 (pc := 47) (366 : Int64) dX2_partsBetween_47 kc_RX2_31 ?_
      refine sm_lmul (pc := 50) dX2_partsBetween_50 ?_
      refine sm_ladd (pc := 51) dX2_partsBetween_51 ?_
      exact sm_retL (pc := 52) dX2_partsBetween_52
    refine sm_iload_n (pc := 20) dX2_partsBetween_20 rfl 2 rfl ?_
    refine sm_iload_n (pc := 21) dX2_partsBetween_21 rfl 1 rfl ?_
    refine sm_isub (pc := 22) dX2_partsBetween_22 ?_
    refine sm_i2l (pc := 23) dX2_partsBetween_23 ?_
    exact sm_retL (pc := 24) dX2_partsBetween_24
  refine sm_iload_n (pc := 4) dX2_partsBetween_4 rfl 2 rfl ?_
  refine sm_callSI (pc := 5) [.int a3] (fun lq rq Sq hq => m_X2_thirties Z lq a3 S hq) dX2_partsBetween_5 mi_X2_thirties ml_RX2_23 ⟨Nat.le_of_ble_eq_true rfl, Nat.le_of_ble_eq_true rfl, rfl, rfl⟩ rfl (Nat.le_of_ble_eq_true rfl) rfl (fun r5 S5 => ?_)
  refine sm_iload_n (pc := 8) dX2_partsBetween_8 rfl 1 rfl ?_
  refine sm_callSI (pc := 9) [.int a2] (fun lq rq Sq hq => m_X2_thirties Z lq a2 S5 hq) dX2_partsBetween_9 mi_X2_thirties ml_RX2_23 ⟨Nat.le_of_ble_eq_true rfl, Nat.le_of_ble_eq_true rfl, rfl, rfl⟩ rfl (Nat.le_of_ble_eq_true rfl) rfl (fun r9 S9 => ?_)
  refine sm_isub (pc := 12) dX2_partsBetween_12 ?_
  refine sm_i2l (pc := 13) dX2_partsBetween_13 ?_
  exact sm_retL (pc := 14) dX2_partsBetween_14
set_option maxRecDepth 20000 in
set_option maxHeartbeats 4000000 in
theorem m_X2_partsBetween (Z : ZT) (l : Launch) (a1 : Int32) (a2 : Int32) (a3 : Int32) (S : St) {r : Int64} {S' : St} (h : F_X2_partsBetween a1 a2 a3 S = some (r, S')) : MetX Z l yX2_partsBetween cX2_partsBetween 5 (some .long) rm_X2_partsBetween [.int a1, .int a2, .int a3] S (eL r) S' := Sim.met (by decide +kernel) rfl (Nat.le_of_ble_eq_true rfl) (s_X2_partsBetween Z a1 a2 a3 S) l h
set_option maxRecDepth 20000 in
set_option maxHeartbeats 4000000 in
theorem sB_X4_layPeriods_22 (Z : ZT) (rec22 : (Nat → Int32 → Int32 → Int32 → St → Option (Unit × St))) (h22 : ∀ (x0 : Nat) (x2 : Int32) (x3 : Int32) (x4 : Int32)  (S : St), Sim eV Z rm_X4_layPeriods RX4 cX4_layPeriods 5 none 22 [(0, .ref x0), (2, .int x2), (3, .int x3), (4, .int x4)] [] S (rec22 x0 x2 x3 x4 S)) (x0 : Nat) (x2 : Int32) (x3 : Int32) (x4 : Int32)  (S : St) : Sim eV Z rm_X4_layPeriods RX4 cX4_layPeriods 5 none 22 [(0, .ref x0), (2, .int x2), (3, .int x3), (4, .int x4)] [] S (B_X4_layPeriods_22 rec22 x0 x2 x3 x4 S) := by
  unfold B_X4_layPeriods_22
  refine sm_iload (pc := 22) dX4_layPeriods_22 3 rfl ?_
  refine sm_aload_n (pc := 24) dX4_layPeriods_24 rfl 0 rfl ?_
  refine sm_getI (pc := 25) dX4_layPeriods_25 fr_RX4_67 (by decide) rfl (fun v25 => ?_)
  refine sm_icmp_gt 95 (pc := 28) dX4_layPeriods_28 rfl ?_ ?_
  · exact sm_retV (pc := 95) dX4_layPeriods_95
  refine sm_aload_n (pc := 31) dX4_layPeriods_31 rfl 0 rfl ?_
  refine sm_getR (pc := 32) dX4_layPeriods_32 fr_RX4_9 (by decide) rfl (fun v32 => ?_)
  refine sm_iload (pc := 35) dX4_layPeriods_35 3 rfl ?_
  refine sm_iload_n (pc := 37) dX4_layPeriods_37 rfl 1 rfl ?_
  refine sm_iload (pc := 38) dX4_layPeriods_38 3 rfl ?_
  refine sm_iadd (pc := 40) dX4_layPeriods_40 ?_
  refine sm_callSI (pc := 41) [.int (x2 + x4)] (fun lq rq Sq hq => m_X2_firstOf Z lq (x2 + x4) S hq) dX4_layPeriods_41 mi_X2_firstOf ml_RX4_88 ⟨Nat.le_of_ble_eq_true rfl, Nat.le_of_ble_eq_true rfl, rfl, rfl⟩ rfl (Nat.le_of_ble_eq_true rfl) rfl (fun r41 S41 => ?_)
  refine sm_iload_n (pc := 44) dX4_layPeriods_44 rfl 2 rfl ?_
  refine sm_iload_n (pc := 45) dX4_layPeriods_45 rfl 1 rfl ?_
  refine sm_iload (pc := 46) dX4_layPeriods_46 3 rfl ?_
  refine sm_iadd (pc := 48) dX4_layPeriods_48 ?_
  refine sm_callSI (pc := 49) [.int (x2 + x4)] (fun lq rq Sq hq => m_X2_lengthOf Z lq (x2 + x4) S41 hq) dX4_layPeriods_49 mi_X2_lengthOf ml_RX4_91 ⟨Nat.le_of_ble_eq_true rfl, Nat.le_of_ble_eq_true rfl, rfl, rfl⟩ rfl (Nat.le_of_ble_eq_true rfl) rfl (fun r49 S49 => ?_)
  refine sm_iconst (pc := 52) (1 : Int32) dX4_layPeriods_52 (by decide) ?_
  refine sm_isub (pc := 53) dX4_layPeriods_53 ?_
  refine sm_callSI (pc := 54) [.int x3, .int (r49 - (1 : Int32))] (fun lq rq Sq hq => m_J9_min_7cf53 Z lq x3 (r49 - (1 : Int32)) S49 hq) dX4_layPeriods_54 mi_J9_min_7cf53 ml_RX4_94 ⟨Nat.le_of_ble_eq_true rfl, Nat.le_of_ble_eq_true rfl, rfl, rfl⟩ rfl (Nat.le_of_ble_eq_true rfl) rfl (fun r54 S54 => ?_)
  refine sm_iadd (pc := 57) dX4_layPeriods_57 ?_
  refine sm_sI (pc := 58) dX4_layPeriods_58 (fun S58 => ?_)
  refine sm_aload_n (pc := 59) dX4_layPeriods_59 rfl 0 rfl ?_
  refine sm_getR (pc := 60) dX4_layPeriods_60 fr_RX4_15 (by decide) rfl (fun v60 => ?_)
  refine sm_iload (pc := 63) dX4_layPeriods_63 3 rfl ?_
  refine sm_aload_n (pc := 65) dX4_layPeriods_65 rfl 0 rfl ?_
  refine sm_getI (pc := 66) dX4_layPeriods_66 fr_RX4_58 (by decide) rfl (fun v66 => ?_)
  refine sm_aload_n (pc := 69) dX4_layPeriods_69 rfl 0 rfl ?_
  refine sm_getR (pc := 70) dX4_layPeriods_70 fr_RX4_9 (by decide) rfl (fun v70 => ?_)
  refine sm_iload (pc := 73) dX4_layPeriods_73 3 rfl ?_
  refine sm_iconst (pc := 75) (1 : Int32) dX4_layPeriods_75 (by decide) ?_
  refine sm_isub (pc := 76) dX4_layPeriods_76 ?_
  refine sm_aI (pc := 77) dX4_layPeriods_77 (fun v77 => ?_)
  refine sm_aload_n (pc := 78) dX4_layPeriods_78 rfl 0 rfl ?_
  refine sm_getR (pc := 79) dX4_layPeriods_79 fr_RX4_9 (by decide) rfl (fun v79 => ?_)
  refine sm_iload (pc := 82) dX4_layPeriods_82 3 rfl ?_
  refine sm_aI (pc := 84) dX4_layPeriods_84 (fun v84 => ?_)
  refine sm_callSL (pc := 85) [.int v66, .int v77, .int v84] (fun lq rq Sq hq => m_X2_partsBetween Z lq v66 v77 v84 S58 hq) dX4_layPeriods_85 mi_X2_partsBetween ml_RX4_100 ⟨Nat.le_of_ble_eq_true rfl, Nat.le_of_ble_eq_true rfl, rfl, rfl⟩ rfl (Nat.le_of_ble_eq_true rfl) rfl (fun r85 S85 => ?_)
  refine sm_sJ (pc := 88) dX4_layPeriods_88 (fun S88 => ?_)
  refine sm_iinc (pc := 89) (x4 + 1) (lv' := [(4, .int (x4 + 1)), (0, .ref x0), (2, .int x2), (3, .int x3)]) dX4_layPeriods_89 3 rfl rfl (by decide) rfl ?_
  refine sm_goto 22 (pc := 92) dX4_layPeriods_92 rfl ?_
  refine sm_sub [1, 2, 3, 0] rfl ?_
  exact h22 x0 x2 x3 (x4 + 1) S88
set_option maxRecDepth 20000 in
set_option maxHeartbeats 4000000 in
theorem sL_X4_layPeriods_22 (Z : ZT)  (n : Nat) : ∀ (x0 : Nat) (x2 : Int32) (x3 : Int32) (x4 : Int32)  (S : St), Sim eV Z rm_X4_layPeriods RX4 cX4_layPeriods 5 none 22 [(0, .ref x0), (2, .int x2), (3, .int x3), (4, .int x4)] [] S (L_X4_layPeriods_22  n x0 x2 x3 x4 S) := by
  induction n with
  | zero => intros; exact sm_none
  | succ n ih => intro x0 x2 x3 x4 S; exact sB_X4_layPeriods_22 Z  (L_X4_layPeriods_22  n) ih x0 x2 x3 x4 S
set_option maxRecDepth 20000 in
set_option maxHeartbeats 4000000 in
theorem s_X4_layPeriods (Z : ZT) (c : Nat) (a1 : Int32) (S : St) : Sim eV Z rm_X4_layPeriods RX4 cX4_layPeriods 5 none 0 [(0, .ref c), (1, .int a1)] [] S (F_X4_layPeriods c a1 S) := by
  unfold F_X4_layPeriods
  refine sm_iload_n (pc := 0) dX4_layPeriods_0 rfl 1 rfl ?_
  refine sm_callSI (pc := 1) [.int a1] (fun lq rq Sq hq => m_X2_monthOf Z lq a1 S hq) dX4_layPeriods_1 mi_X2_monthOf ml_RX4_82 ⟨Nat.le_of_ble_eq_true rfl, Nat.le_of_ble_eq_true rfl, rfl, rfl⟩ rfl (Nat.le_of_ble_eq_true rfl) rfl (fun r1 S1 => ?_)
  refine sm_istore_n (pc := 4) (lv' := [(2, .int r1), (0, .ref c), (1, .int a1)]) dX4_layPeriods_4 rfl (by decide) rfl ?_
  refine sm_iload_n (pc := 5) dX4_layPeriods_5 rfl 2 rfl ?_
  refine sm_iload_n (pc := 6) dX4_layPeriods_6 rfl 0 rfl ?_
  refine sm_callSI (pc := 7) [.int r1] (fun lq rq Sq hq => m_X2_firstOf Z lq r1 S1 hq) dX4_layPeriods_7 mi_X2_firstOf ml_RX4_88 ⟨Nat.le_of_ble_eq_true rfl, Nat.le_of_ble_eq_true rfl, rfl, rfl⟩ rfl (Nat.le_of_ble_eq_true rfl) rfl (fun r7 S7 => ?_)
  refine sm_isub (pc := 10) dX4_layPeriods_10 ?_
  refine sm_bdI (fun v11 => ?_)
  refine sm_istore_n (pc := 11) (lv' := [(3, .int v11), (2, .int r1), (0, .ref c), (1, .int a1)]) dX4_layPeriods_11 rfl (by decide) rfl ?_
  refine sm_aload_n (pc := 12) dX4_layPeriods_12 rfl 2 rfl ?_
  refine sm_getR (pc := 13) dX4_layPeriods_13 fr_RX4_9 (by decide) rfl (fun v13 => ?_)
  refine sm_iconst (pc := 16) (0 : Int32) dX4_layPeriods_16 (by decide) ?_
  refine sm_iload_n (pc := 17) dX4_layPeriods_17 rfl 3 rfl ?_
  refine sm_sI (pc := 18) dX4_layPeriods_18 (fun S18 => ?_)
  refine sm_iconst (pc := 19) (1 : Int32) dX4_layPeriods_19 (by decide) ?_
  refine sm_istore (pc := 20) (lv' := [(4, .int (1 : Int32)), (3, .int v11), (2, .int r1), (0, .ref c), (1, .int a1)]) dX4_layPeriods_20 (by decide) rfl ?_
  refine sm_sub [3, 2, 1, 0] rfl ?_
  exact sL_X4_layPeriods_22 Z  6000 c r1 v11 (1 : Int32) S18
set_option maxRecDepth 20000 in
set_option maxHeartbeats 4000000 in
theorem m_X4_layPeriods (Z : ZT) (l : Launch) (c : Nat) (a1 : Int32) (S : St) {r : Unit} {S' : St} (h : F_X4_layPeriods c a1 S = some (r, S')) : MetX Z l yX4_layPeriods cX4_layPeriods 5 none rm_X4_layPeriods [.ref c, .int a1] S (eV r) S' := Sim.met (by decide +kernel) rfl (Nat.le_of_ble_eq_true rfl) (s_X4_layPeriods Z c a1 S) l h
set_option maxRecDepth 20000 in
set_option maxHeartbeats 4000000 in
theorem sJ_X2_cents_25 (Z : ZT)  (x0 : Int64) (x3 : Int64) (t0 : Int64) (S : St) : Sim eL Z rm_X2_cents RX2 cX2_cents 9 (some .long) 25 [(0, .long x0), (3, .long x3)] [.long t0] S (J_X2_cents_25  x0 x3 t0 S) := by
  unfold J_X2_cents_25
  refine sm_lstore (pc := 25) (lv' := [(5, .long t0), (0, .long x0), (3, .long x3)]) dX2_cents_25 (by decide) rfl ?_
  refine sm_lload (pc := 27) dX2_cents_27 0 rfl ?_
  refine sm_ldc2 (pc := 29) (10000 : Int64) dX2_cents_29 kc_RX2_37 ?_
  refine sm_lmul (pc := 32) dX2_cents_32 ?_
  refine sm_bdJ (fun v33 => ?_)
  refine sm_lstore (pc := 33) (lv' := [(7, .long v33), (5, .long t0), (0, .long x0), (3, .long x3)]) dX2_cents_33 (by decide) rfl ?_
  refine sm_lload_n (pc := 35) dX2_cents_35 rfl 2 rfl ?_
  refine sm_lload_n (pc := 36) dX2_cents_36 rfl 3 rfl ?_
  refine sm_lmul (pc := 37) dX2_cents_37 ?_
  refine sm_lload (pc := 38) dX2_cents_38 0 rfl ?_
  refine sm_ldc2 (pc := 40) (2 : Int64) dX2_cents_40 kc_RX2_39 ?_
  refine sm_ldivc (pc := 43) dX2_cents_43 (by decide) ?_
  refine sm_ladd (pc := 44) dX2_cents_44 ?_
  refine sm_lload (pc := 45) dX2_cents_45 0 rfl ?_
  refine sm_ldiv (pc := 47) dX2_cents_47 ?_
  exact sm_retL (pc := 48) dX2_cents_48
set_option maxRecDepth 20000 in
set_option maxHeartbeats 4000000 in
theorem s_X2_cents (Z : ZT) (a1 : Int64) (a2 : Int32) (a3 : Int64) (S : St) : Sim eL Z rm_X2_cents RX2 cX2_cents 9 (some .long) 0 [(0, .long a1), (2, .int a2), (3, .long a3)] [] S (F_X2_cents a1 a2 a3 S) := by
  unfold F_X2_cents
  refine sm_iload_n (pc := 0) dX2_cents_0 rfl 1 rfl ?_
  refine sm_iconst (pc := 1) (2 : Int32) dX2_cents_1 (by decide) ?_
  refine sm_icmp_ge 11 (pc := 2) dX2_cents_2 rfl ?_ ?_
  · refine sm_iload_n (pc := 11) dX2_cents_11 rfl 1 rfl ?_
    refine sm_iconst (pc := 12) (2 : Int32) dX2_cents_12 (by decide) ?_
    refine sm_icmp_ne 22 (pc := 13) dX2_cents_13 rfl ?_ ?_
    · refine sm_ldc2 (pc := 22) (133590 : Int64) dX2_cents_22 kc_RX2_35 ?_
      refine sm_sub [0, 2] rfl ?_
      exact sJ_X2_cents_25 Z  a1 a3 (133590 : Int64) S
    refine sm_ldc2 (pc := 16) (365 : Int64) dX2_cents_16 kc_RX2_29 ?_
    refine sm_goto 25 (pc := 19) dX2_cents_19 rfl ?_
    refine sm_sub [0, 2] rfl ?_
    exact sJ_X2_cents_25 Z  a1 a3 (365 : Int64) S
  refine sm_ldc2 (pc := 5) (360 : Int64) dX2_cents_5 kc_RX2_33 ?_
  refine sm_goto 25 (pc := 8) dX2_cents_8 rfl ?_
  refine sm_sub [0, 2] rfl ?_
  exact sJ_X2_cents_25 Z  a1 a3 (360 : Int64) S
set_option maxRecDepth 20000 in
set_option maxHeartbeats 4000000 in
theorem m_X2_cents (Z : ZT) (l : Launch) (a1 : Int64) (a2 : Int32) (a3 : Int64) (S : St) {r : Int64} {S' : St} (h : F_X2_cents a1 a2 a3 S = some (r, S')) : MetX Z l yX2_cents cX2_cents 9 (some .long) rm_X2_cents [.long a1, .int a2, .long a3] S (eL r) S' := Sim.met (by decide +kernel) rfl (Nat.le_of_ble_eq_true rfl) (s_X2_cents Z a1 a2 a3 S) l h
set_option maxRecDepth 20000 in
set_option maxHeartbeats 4000000 in
theorem s_X4_interestOf (Z : ZT) (c : Nat) (a1 : Int32) (a2 : Int64) (S : St) : Sim eL Z rm_X4_interestOf RX4 cX4_interestOf 4 (some .long) 0 [(0, .ref c), (1, .int a1), (2, .long a2)] [] S (F_X4_interestOf c a1 a2 S) := by
  unfold F_X4_interestOf
  refine sm_lload_n (pc := 0) dX4_interestOf_0 rfl 2 rfl ?_
  refine sm_aload_n (pc := 1) dX4_interestOf_1 rfl 0 rfl ?_
  refine sm_getI (pc := 2) dX4_interestOf_2 fr_RX4_54 (by decide) rfl (fun v2 => ?_)
  refine sm_i2l (pc := 5) dX4_interestOf_5 ?_
  refine sm_lmul (pc := 6) dX4_interestOf_6 ?_
  refine sm_aload_n (pc := 7) dX4_interestOf_7 rfl 0 rfl ?_
  refine sm_getI (pc := 8) dX4_interestOf_8 fr_RX4_58 (by decide) rfl (fun v8 => ?_)
  refine sm_aload_n (pc := 11) dX4_interestOf_11 rfl 0 rfl ?_
  refine sm_getR (pc := 12) dX4_interestOf_12 fr_RX4_15 (by decide) rfl (fun v12 => ?_)
  refine sm_iload_n (pc := 15) dX4_interestOf_15 rfl 1 rfl ?_
  refine sm_aJ (pc := 16) dX4_interestOf_16 (fun v16 => ?_)
  refine sm_callSL (pc := 17) [.long (a2 * (Int32.toInt64 v2)), .int v8, .long v16] (fun lq rq Sq hq => m_X2_cents Z lq (a2 * (Int32.toInt64 v2)) v8 v16 S hq) dX4_interestOf_17 mi_X2_cents ml_RX4_104 ⟨Nat.le_of_ble_eq_true rfl, Nat.le_of_ble_eq_true rfl, rfl, rfl⟩ rfl (Nat.le_of_ble_eq_true rfl) rfl (fun r17 S17 => ?_)
  exact sm_retL (pc := 20) dX4_interestOf_20
set_option maxRecDepth 20000 in
set_option maxHeartbeats 4000000 in
theorem m_X4_interestOf (Z : ZT) (l : Launch) (c : Nat) (a1 : Int32) (a2 : Int64) (S : St) {r : Int64} {S' : St} (h : F_X4_interestOf c a1 a2 S = some (r, S')) : MetX Z l yX4_interestOf cX4_interestOf 4 (some .long) rm_X4_interestOf [.ref c, .int a1, .long a2] S (eL r) S' := Sim.met (by decide +kernel) rfl (Nat.le_of_ble_eq_true rfl) (s_X4_interestOf Z c a1 a2 S) l h
set_option maxRecDepth 20000 in
set_option maxHeartbeats 4000000 in
theorem sJ_J9_max_f86c9_11 (Z : ZT)   (t0 : Int64) (S : St) : Sim eL Z rm_J9_max_f86c9 RJ9 cJ9_max_f86c9 4 (some .long) 11 [] [.long t0] S (J_J9_max_f86c9_11  t0 S) := by
  unfold J_J9_max_f86c9_11
  exact sm_retL (pc := 11) dJ9_max_f86c9_11
set_option maxRecDepth 20000 in
set_option maxHeartbeats 4000000 in
theorem s_J9_max_f86c9 (Z : ZT) (a1 : Int64) (a2 : Int64) (S : St) : Sim eL Z rm_J9_max_f86c9 RJ9 cJ9_max_f86c9 4 (some .long) 0 [(0, .long a1), (2, .long a2)] [] S (F_J9_max_f86c9 a1 a2 S) := by
  unfold F_J9_max_f86c9
  refine sm_lload_n (pc := 0) dJ9_max_f86c9_0 rfl 0 rfl ?_
  refine sm_lload_n (pc := 1) dJ9_max_f86c9_1 rfl 1 rfl ?_
  refine sm_lcmp_lt 10 (pc := 2) dJ9_max_f86c9_2 dJ9_max_f86c9_3 rfl ?_ ?_
  · refine sm_lload_n (pc := 10) dJ9_max_f86c9_10 rfl 1 rfl ?_
    refine sm_sub [] rfl ?_
    exact sJ_J9_max_f86c9_11 Z  a2 S
  refine sm_lload_n (pc := 6) dJ9_max_f86c9_6 rfl 0 rfl ?_
  refine sm_goto 11 (pc := 7) dJ9_max_f86c9_7 rfl ?_
  refine sm_sub [] rfl ?_
  exact sJ_J9_max_f86c9_11 Z  a1 S
set_option maxRecDepth 20000 in
set_option maxHeartbeats 4000000 in
theorem m_J9_max_f86c9 (Z : ZT) (l : Launch) (a1 : Int64) (a2 : Int64) (S : St) {r : Int64} {S' : St} (h : F_J9_max_f86c9 a1 a2 S = some (r, S')) : MetX Z l yJ9_max_f86c9 cJ9_max_f86c9 4 (some .long) rm_J9_max_f86c9 [.long a1, .long a2] S (eL r) S' := Sim.met (by decide +kernel) rfl (Nat.le_of_ble_eq_true rfl) (s_J9_max_f86c9 Z a1 a2 S) l h
set_option maxRecDepth 20000 in
set_option maxHeartbeats 4000000 in
theorem sJ_J9_min_f86c9_11 (Z : ZT)   (t0 : Int64) (S : St) : Sim eL Z rm_J9_min_f86c9 RJ9 cJ9_min_f86c9 4 (some .long) 11 [] [.long t0] S (J_J9_min_f86c9_11  t0 S) := by
  unfold J_J9_min_f86c9_11
  exact sm_retL (pc := 11) dJ9_min_f86c9_11
set_option maxRecDepth 20000 in
set_option maxHeartbeats 4000000 in
theorem s_J9_min_f86c9 (Z : ZT) (a1 : Int64) (a2 : Int64) (S : St) : Sim eL Z rm_J9_min_f86c9 RJ9 cJ9_min_f86c9 4 (some .long) 0 [(0, .long a1), (2, .long a2)] [] S (F_J9_min_f86c9 a1 a2 S) := by
  unfold F_J9_min_f86c9
  refine sm_lload_n (pc := 0) dJ9_min_f86c9_0 rfl 0 rfl ?_
  refine sm_lload_n (pc := 1) dJ9_min_f86c9_1 rfl 1 rfl ?_
  refine sm_lcmp_gt 10 (pc := 2) dJ9_min_f86c9_2 dJ9_min_f86c9_3 rfl ?_ ?_
  · refine sm_lload_n (pc := 10) dJ9_min_f86c9_10 rfl 1 rfl ?_
    refine sm_sub [] rfl ?_
    exact sJ_J9_min_f86c9_11 Z  a2 S
  refine sm_lload_n (pc := 6) dJ9_min_f86c9_6 rfl 0 rfl ?_
  refine sm_goto 11 (pc := 7) dJ9_min_f86c9_7 rfl ?_
  refine sm_sub [] rfl ?_
  exact sJ_J9_min_f86c9_11 Z  a1 S
set_option maxRecDepth 20000 in
set_option maxHeartbeats 4000000 in
theorem m_J9_min_f86c9 (Z : ZT) (l : Launch) (a1 : Int64) (a2 : Int64) (S : St) {r : Int64} {S' : St} (h : F_J9_min_f86c9 a1 a2 S = some (r, S')) : MetX Z l yJ9_min_f86c9 cJ9_min_f86c9 4 (some .long) rm_J9_min_f86c9 [.long a1, .long a2] S (eL r) S' := Sim.met (by decide +kernel) rfl (Nat.le_of_ble_eq_true rfl) (s_J9_min_f86c9 Z a1 a2 S) l h
set_option maxRecDepth 20000 in
set_option maxHeartbeats 4000000 in
theorem s_X4_repaidBy (Z : ZT) (a1 : Int64) (a2 : Int64) (a3 : Int64) (S : St) : Sim eL Z rm_X4_repaidBy RX4 cX4_repaidBy 6 (some .long) 0 [(0, .long a1), (2, .long a2), (4, .long a3)] [] S (F_X4_repaidBy a1 a2 a3 S) := by
  unfold F_X4_repaidBy
  refine sm_lload_n (pc := 0) dX4_repaidBy_0 rfl 1 rfl ?_
  refine sm_lconst (pc := 1) (0 : Int64) dX4_repaidBy_1 (by decide) ?_
  refine sm_lload_n (pc := 2) dX4_repaidBy_2 rfl 0 rfl ?_
  refine sm_lload (pc := 3) dX4_repaidBy_3 2 rfl ?_
  refine sm_lsub (pc := 5) dX4_repaidBy_5 ?_
  refine sm_callSL (pc := 6) [.long (0 : Int64), .long (a1 - a3)] (fun lq rq Sq hq => m_J9_max_f86c9 Z lq (0 : Int64) (a1 - a3) S hq) dX4_repaidBy_6 mi_J9_max_f86c9 ml_RX4_112 ⟨Nat.le_of_ble_eq_true rfl, Nat.le_of_ble_eq_true rfl, rfl, rfl⟩ rfl (Nat.le_of_ble_eq_true rfl) rfl (fun r6 S6 => ?_)
  refine sm_callSL (pc := 9) [.long a2, .long r6] (fun lq rq Sq hq => m_J9_min_f86c9 Z lq a2 r6 S6 hq) dX4_repaidBy_9 mi_J9_min_f86c9 ml_RX4_116 ⟨Nat.le_of_ble_eq_true rfl, Nat.le_of_ble_eq_true rfl, rfl, rfl⟩ rfl (Nat.le_of_ble_eq_true rfl) rfl (fun r9 S9 => ?_)
  exact sm_retL (pc := 12) dX4_repaidBy_12
set_option maxRecDepth 20000 in
set_option maxHeartbeats 4000000 in
theorem m_X4_repaidBy (Z : ZT) (l : Launch) (a1 : Int64) (a2 : Int64) (a3 : Int64) (S : St) {r : Int64} {S' : St} (h : F_X4_repaidBy a1 a2 a3 S = some (r, S')) : MetX Z l yX4_repaidBy cX4_repaidBy 6 (some .long) rm_X4_repaidBy [.long a1, .long a2, .long a3] S (eL r) S' := Sim.met (by decide +kernel) rfl (Nat.le_of_ble_eq_true rfl) (s_X4_repaidBy Z a1 a2 a3 S) l h
set_option maxRecDepth 20000 in
set_option maxHeartbeats 4000000 in
theorem sJ_X4_isRepaidBy_60 (Z : ZT)   (t0 : Int32) (S : St) : Sim eI Z rm_X4_isRepaidBy RX4 cX4_isRepaidBy 6 (some .boolean) 60 [] [.int t0] S (J_X4_isRepaidBy_60  t0 S) := by
  unfold J_X4_isRepaidBy_60
  exact sm_retZ (pc := 60) dX4_isRepaidBy_60
set_option maxRecDepth 20000 in
set_option maxHeartbeats 4000000 in
theorem sJ_X4_isRepaidBy_49 (Z : ZT)  (x3 : Int64)  (S : St) : Sim eI Z rm_X4_isRepaidBy RX4 cX4_isRepaidBy 6 (some .boolean) 49 [(3, .long x3)] [] S (J_X4_isRepaidBy_49  x3 S) := by
  unfold J_X4_isRepaidBy_49
  refine sm_lload_n (pc := 49) dX4_isRepaidBy_49 rfl 0 rfl ?_
  refine sm_lconst (pc := 50) (0 : Int64) dX4_isRepaidBy_50 (by decide) ?_
  refine sm_lcmp_ne 59 (pc := 51) dX4_isRepaidBy_51 dX4_isRepaidBy_52 rfl ?_ ?_
  · refine sm_iconst (pc := 59) (0 : Int32) dX4_isRepaidBy_59 (by decide) ?_
    refine sm_sub [] rfl ?_
    exact sJ_X4_isRepaidBy_60 Z  (0 : Int32) S
  refine sm_iconst (pc := 55) (1 : Int32) dX4_isRepaidBy_55 (by decide) ?_
  refine sm_goto 60 (pc := 56) dX4_isRepaidBy_56 rfl ?_
  refine sm_sub [] rfl ?_
  exact sJ_X4_isRepaidBy_60 Z  (1 : Int32) S
set_option maxRecDepth 20000 in
set_option maxHeartbeats 4000000 in
theorem sB_X4_isRepaidBy_13 (Z : ZT) (rec13 : (Nat → Int64 → Int64 → Int32 → St → Option (Int32 × St))) (h13 : ∀ (x0 : Nat) (x1 : Int64) (x3 : Int64) (x5 : Int32)  (S : St), Sim eI Z rm_X4_isRepaidBy RX4 cX4_isRepaidBy 6 (some .boolean) 13 [(0, .ref x0), (1, .long x1), (3, .long x3), (5, .int x5)] [] S (rec13 x0 x1 x3 x5 S)) (x0 : Nat) (x1 : Int64) (x3 : Int64) (x5 : Int32)  (S : St) : Sim eI Z rm_X4_isRepaidBy RX4 cX4_isRepaidBy 6 (some .boolean) 13 [(0, .ref x0), (1, .long x1), (3, .long x3), (5, .int x5)] [] S (B_X4_isRepaidBy_13 rec13 x0 x1 x3 x5 S) := by
  unfold B_X4_isRepaidBy_13
  refine sm_iload (pc := 13) dX4_isRepaidBy_13 3 rfl ?_
  refine sm_aload_n (pc := 15) dX4_isRepaidBy_15 rfl 0 rfl ?_
  refine sm_getI (pc := 16) dX4_isRepaidBy_16 fr_RX4_67 (by decide) rfl (fun v16 => ?_)
  refine sm_icmp_gt 49 (pc := 19) dX4_isRepaidBy_19 rfl ?_ ?_
  · refine sm_sub [2] rfl ?_
    exact sJ_X4_isRepaidBy_49 Z  x3 S
  refine sm_lload_n (pc := 22) dX4_isRepaidBy_22 rfl 2 rfl ?_
  refine sm_lconst (pc := 23) (0 : Int64) dX4_isRepaidBy_23 (by decide) ?_
  refine sm_lcmp_le 49 (pc := 24) dX4_isRepaidBy_24 dX4_isRepaidBy_25 rfl ?_ ?_
  · refine sm_sub [2] rfl ?_
    exact sJ_X4_isRepaidBy_49 Z  x3 S
  refine sm_lload_n (pc := 28) dX4_isRepaidBy_28 rfl 2 rfl ?_
  refine sm_lload_n (pc := 29) dX4_isRepaidBy_29 rfl 1 rfl ?_
  refine sm_lload_n (pc := 30) dX4_isRepaidBy_30 rfl 2 rfl ?_
  refine sm_aload_n (pc := 31) dX4_isRepaidBy_31 rfl 0 rfl ?_
  refine sm_iload (pc := 32) dX4_isRepaidBy_32 3 rfl ?_
  refine sm_lload_n (pc := 34) dX4_isRepaidBy_34 rfl 2 rfl ?_
  refine sm_callVL (pc := 35) [.int x5, .long x3] (fun lq rq Sq hq => m_X4_interestOf Z lq x0 x5 x3 S hq) dX4_isRepaidBy_35 mi_X4_interestOf ml_RX4_126 ⟨Nat.le_of_ble_eq_true rfl, Nat.le_of_ble_eq_true rfl, rfl, rfl⟩ rfl (by decide) rfl (Nat.le_of_ble_eq_true rfl) rfl (fun r35 S35 => ?_)
  refine sm_callSL (pc := 38) [.long x1, .long x3, .long r35] (fun lq rq Sq hq => m_X4_repaidBy Z lq x1 x3 r35 S35 hq) dX4_isRepaidBy_38 mi_X4_repaidBy ml_RX4_108 ⟨Nat.le_of_ble_eq_true rfl, Nat.le_of_ble_eq_true rfl, rfl, rfl⟩ rfl (Nat.le_of_ble_eq_true rfl) rfl (fun r38 S38 => ?_)
  refine sm_lsub (pc := 41) dX4_isRepaidBy_41 ?_
  refine sm_bdJ (fun v42 => ?_)
  refine sm_lstore_n (pc := 42) (lv' := [(3, .long v42), (0, .ref x0), (1, .long x1), (5, .int x5)]) dX4_isRepaidBy_42 rfl (by decide) rfl ?_
  refine sm_iinc (pc := 43) (x5 + 1) (lv' := [(5, .int (x5 + 1)), (3, .long v42), (0, .ref x0), (1, .long x1)]) dX4_isRepaidBy_43 3 rfl rfl (by decide) rfl ?_
  refine sm_goto 13 (pc := 46) dX4_isRepaidBy_46 rfl ?_
  refine sm_sub [2, 3, 1, 0] rfl ?_
  exact h13 x0 x1 v42 (x5 + 1) S38
set_option maxRecDepth 20000 in
set_option maxHeartbeats 4000000 in
theorem sL_X4_isRepaidBy_13 (Z : ZT)  (n : Nat) : ∀ (x0 : Nat) (x1 : Int64) (x3 : Int64) (x5 : Int32)  (S : St), Sim eI Z rm_X4_isRepaidBy RX4 cX4_isRepaidBy 6 (some .boolean) 13 [(0, .ref x0), (1, .long x1), (3, .long x3), (5, .int x5)] [] S (L_X4_isRepaidBy_13  n x0 x1 x3 x5 S) := by
  induction n with
  | zero => intros; exact sm_none
  | succ n ih => intro x0 x1 x3 x5 S; exact sB_X4_isRepaidBy_13 Z  (L_X4_isRepaidBy_13  n) ih x0 x1 x3 x5 S
set_option maxRecDepth 20000 in
set_option maxHeartbeats 4000000 in
theorem s_X4_isRepaidBy (Z : ZT) (c : Nat) (a1 : Int64) (S : St) : Sim eI Z rm_X4_isRepaidBy RX4 cX4_isRepaidBy 6 (some .boolean) 0 [(0, .ref c), (1, .long a1)] [] S (F_X4_isRepaidBy c a1 S) := by
  unfold F_X4_isRepaidBy
  refine sm_aload_n (pc := 0) dX4_isRepaidBy_0 rfl 0 rfl ?_
  refine sm_getL (pc := 1) dX4_isRepaidBy_1 fr_RX4_36 (by decide) rfl (fun v1 => ?_)
  refine sm_lstore_n (pc := 4) (lv' := [(3, .long v1), (0, .ref c), (1, .long a1)]) dX4_isRepaidBy_4 rfl (by decide) rfl ?_
  refine sm_aload_n (pc := 5) dX4_isRepaidBy_5 rfl 1 rfl ?_
  refine sm_getI (pc := 6) dX4_isRepaidBy_6 fr_RX4_70 (by decide) rfl (fun v6 => ?_)
  refine sm_iconst (pc := 9) (1 : Int32) dX4_isRepaidBy_9 (by decide) ?_
  refine sm_iadd (pc := 10) dX4_isRepaidBy_10 ?_
  refine sm_bdI (fun v11 => ?_)
  refine sm_istore (pc := 11) (lv' := [(5, .int v11), (3, .long v1), (0, .ref c), (1, .long a1)]) dX4_isRepaidBy_11 (by decide) rfl ?_
  refine sm_sub [2, 3, 1, 0] rfl ?_
  exact sL_X4_isRepaidBy_13 Z  6000 c a1 v1 v11 S
set_option maxRecDepth 20000 in
set_option maxHeartbeats 4000000 in
theorem m_X4_isRepaidBy (Z : ZT) (l : Launch) (c : Nat) (a1 : Int64) (S : St) {r : Int32} {S' : St} (h : F_X4_isRepaidBy c a1 S = some (r, S')) : MetX Z l yX4_isRepaidBy cX4_isRepaidBy 6 (some .boolean) rm_X4_isRepaidBy [.ref c, .long a1] S (eI r) S' := Sim.met (by decide +kernel) rfl (Nat.le_of_ble_eq_true rfl) (s_X4_isRepaidBy Z c a1 S) l h
