set_option maxRecDepth 20000 in
set_option maxHeartbeats 4000000 in
theorem sJ_X4_findLevel_16 (Z : ZT)    (S : St) : Sim eV Z rm_X4_findLevel RX4 cX4_findLevel 8 none 16 [] [] S (J_X4_findLevel_16  S) := by
  unfold J_X4_findLevel_16
  exact sm_retV (pc := 16) dX4_findLevel_16
set_option maxRecDepth 20000 in
set_option maxHeartbeats 4000000 in
theorem sJ_X4_findLevel_68 (Z : ZT) (rec26 : (Nat → Int64 → Int64 → Int32 → St → Option (Unit × St))) (h26 : ∀ (x0 : Nat) (x1 : Int64) (x3 : Int64) (x5 : Int32)  (S : St), Sim eV Z rm_X4_findLevel RX4 cX4_findLevel 8 none 26 [(0, .ref x0), (1, .long x1), (3, .long x3), (5, .int x5)] [] S (rec26 x0 x1 x3 x5 S)) (x0 : Nat) (x1 : Int64) (x3 : Int64) (x5 : Int32)  (S : St) : Sim eV Z rm_X4_findLevel RX4 cX4_findLevel 8 none 68 [(0, .ref x0), (1, .long x1), (3, .long x3), (5, .int x5)] [] S (J_X4_findLevel_68 rec26 x0 x1 x3 x5 S) := by
  unfold J_X4_findLevel_68
  refine sm_iinc (pc := 68) (x5 + 1) (lv' := [(5, .int (x5 + 1)), (0, .ref x0), (1, .long x1), (3, .long x3)]) dX4_findLevel_68 3 rfl rfl (by decide) rfl ?_
  refine sm_goto 26 (pc := 71) dX4_findLevel_71 rfl ?_
  refine sm_sub [1, 2, 3, 0] rfl ?_
  exact h26 x0 x1 x3 (x5 + 1) S
set_option maxRecDepth 20000 in
set_option maxHeartbeats 4000000 in
theorem sJ_X4_findLevel_74 (Z : ZT)  (x0 : Nat) (x1 : Int64)  (S : St) : Sim eV Z rm_X4_findLevel RX4 cX4_findLevel 8 none 74 [(0, .ref x0), (1, .long x1)] [] S (J_X4_findLevel_74  x0 x1 S) := by
  unfold J_X4_findLevel_74
  refine sm_aload_n (pc := 74) dX4_findLevel_74 rfl 0 rfl ?_
  refine sm_lload_n (pc := 75) dX4_findLevel_75 rfl 1 rfl ?_
  refine sm_putL (pc := 76) dX4_findLevel_76 fw_RX4_39 (by decide) rfl (fun S76 => ?_)
  exact sm_retV (pc := 79) dX4_findLevel_79
set_option maxRecDepth 20000 in
set_option maxHeartbeats 4000000 in
theorem sB_X4_findLevel_26 (Z : ZT) (rec26 : (Nat → Int64 → Int64 → Int32 → St → Option (Unit × St))) (h26 : ∀ (x0 : Nat) (x1 : Int64) (x3 : Int64) (x5 : Int32)  (S : St), Sim eV Z rm_X4_findLevel RX4 cX4_findLevel 8 none 26 [(0, .ref x0), (1, .long x1), (3, .long x3), (5, .int x5)] [] S (rec26 x0 x1 x3 x5 S)) (x0 : Nat) (x1 : Int64) (x3 : Int64) (x5 : Int32)  (S : St) : Sim eV Z rm_X4_findLevel RX4 cX4_findLevel 8 none 26 [(0, .ref x0), (1, .long x1), (3, .long x3), (5, .int x5)] [] S (B_X4_findLevel_26 rec26 x0 x1 x3 x5 S) := by
  unfold B_X4_findLevel_26
  refine sm_iload (pc := 26) dX4_findLevel_26 3 rfl ?_
  refine sm_bipush (pc := 28) (28 : Int32) dX4_findLevel_28 (by decide) ?_
  refine sm_icmp_ge 74 (pc := 30) dX4_findLevel_30 rfl ?_ ?_
  · refine sm_sub [0, 1] rfl ?_
    exact sJ_X4_findLevel_74 Z  x0 x1 S
  refine sm_lload_n (pc := 33) dX4_findLevel_33 rfl 1 rfl ?_
  refine sm_lload_n (pc := 34) dX4_findLevel_34 rfl 2 rfl ?_
  refine sm_lcmp_ge 74 (pc := 35) dX4_findLevel_35 dX4_findLevel_36 rfl ?_ ?_
  · refine sm_sub [0, 1] rfl ?_
    exact sJ_X4_findLevel_74 Z  x0 x1 S
  refine sm_lload_n (pc := 39) dX4_findLevel_39 rfl 1 rfl ?_
  refine sm_lload_n (pc := 40) dX4_findLevel_40 rfl 2 rfl ?_
  refine sm_ladd (pc := 41) dX4_findLevel_41 ?_
  refine sm_ldc2 (pc := 42) (2 : Int64) dX4_findLevel_42 kc_RX4_120 ?_
  refine sm_ldivc (pc := 45) dX4_findLevel_45 (by decide) ?_
  refine sm_bdJ (fun v46 => ?_)
  refine sm_lstore (pc := 46) (lv' := [(6, .long v46), (0, .ref x0), (1, .long x1), (3, .long x3), (5, .int x5)]) dX4_findLevel_46 (by decide) rfl ?_
  refine sm_aload_n (pc := 48) dX4_findLevel_48 rfl 1 rfl ?_
  refine sm_lload (pc := 49) dX4_findLevel_49 0 rfl ?_
  refine sm_callVI (pc := 51) [.long v46] (fun lq rq Sq hq => m_X4_isRepaidBy Z lq x0 v46 S hq) dX4_findLevel_51 mi_X4_isRepaidBy ml_RX4_122 ⟨Nat.le_of_ble_eq_true rfl, Nat.le_of_ble_eq_true rfl, rfl, rfl⟩ rfl (by decide) rfl (Nat.le_of_ble_eq_true rfl) rfl (fun r51 S51 => ?_)
  refine sm_if_eq 63 (pc := 54) dX4_findLevel_54 rfl ?_ ?_
  · refine sm_lload (pc := 63) dX4_findLevel_63 0 rfl ?_
    refine sm_lconst (pc := 65) (1 : Int64) dX4_findLevel_65 (by decide) ?_
    refine sm_ladd (pc := 66) dX4_findLevel_66 ?_
    refine sm_bdJ (fun v67 => ?_)
    refine sm_lstore_n (pc := 67) (lv' := [(1, .long v67), (6, .long v46), (0, .ref x0), (3, .long x3), (5, .int x5)]) dX4_findLevel_67 rfl (by decide) rfl ?_
    refine sm_sub [2, 0, 3, 4] rfl ?_
    exact sJ_X4_findLevel_68 Z rec26 h26 x0 v67 x3 x5 S51
  refine sm_lload (pc := 57) dX4_findLevel_57 0 rfl ?_
  refine sm_lstore_n (pc := 59) (lv' := [(3, .long v46), (6, .long v46), (0, .ref x0), (1, .long x1), (5, .int x5)]) dX4_findLevel_59 rfl (by decide) rfl ?_
  refine sm_goto 68 (pc := 60) dX4_findLevel_60 rfl ?_
  refine sm_sub [2, 3, 0, 4] rfl ?_
  exact sJ_X4_findLevel_68 Z rec26 h26 x0 x1 v46 x5 S51
set_option maxRecDepth 20000 in
set_option maxHeartbeats 4000000 in
theorem sL_X4_findLevel_26 (Z : ZT)  (n : Nat) : ∀ (x0 : Nat) (x1 : Int64) (x3 : Int64) (x5 : Int32)  (S : St), Sim eV Z rm_X4_findLevel RX4 cX4_findLevel 8 none 26 [(0, .ref x0), (1, .long x1), (3, .long x3), (5, .int x5)] [] S (L_X4_findLevel_26  n x0 x1 x3 x5 S) := by
  induction n with
  | zero => intros; exact sm_none
  | succ n ih => intro x0 x1 x3 x5 S; exact sB_X4_findLevel_26 Z  (L_X4_findLevel_26  n) ih x0 x1 x3 x5 S
set_option maxRecDepth 20000 in
set_option maxHeartbeats 4000000 in
theorem s_X4_findLevel (Z : ZT) (c : Nat) (S : St) : Sim eV Z rm_X4_findLevel RX4 cX4_findLevel 8 none 0 [(0, .ref c)] [] S (F_X4_findLevel c S) := by
  unfold F_X4_findLevel
  refine sm_aload_n (pc := 0) dX4_findLevel_0 rfl 0 rfl ?_
  refine sm_getI (pc := 1) dX4_findLevel_1 fr_RX4_61 (by decide) rfl (fun v1 => ?_)
  refine sm_if_ne 16 (pc := 4) dX4_findLevel_4 rfl ?_ ?_
  · refine sm_sub [] rfl ?_
    exact sJ_X4_findLevel_16 Z  S
  refine sm_aload_n (pc := 7) dX4_findLevel_7 rfl 0 rfl ?_
  refine sm_getL (pc := 8) dX4_findLevel_8 fr_RX4_36 (by decide) rfl (fun v8 => ?_)
  refine sm_lconst (pc := 11) (0 : Int64) dX4_findLevel_11 (by decide) ?_
  refine sm_lcmp_ne 17 (pc := 12) dX4_findLevel_12 dX4_findLevel_13 rfl ?_ ?_
  · refine sm_lconst (pc := 17) (0 : Int64) dX4_findLevel_17 (by decide) ?_
    refine sm_lstore_n (pc := 18) (lv' := [(1, .long (0 : Int64)), (0, .ref c)]) dX4_findLevel_18 rfl (by decide) rfl ?_
    refine sm_ldc2 (pc := 19) (200000000 : Int64) dX4_findLevel_19 kc_RX4_118 ?_
    refine sm_lstore_n (pc := 22) (lv' := [(3, .long (200000000 : Int64)), (1, .long (0 : Int64)), (0, .ref c)]) dX4_findLevel_22 rfl (by decide) rfl ?_
    refine sm_iconst (pc := 23) (0 : Int32) dX4_findLevel_23 (by decide) ?_
    refine sm_istore (pc := 24) (lv' := [(5, .int (0 : Int32)), (3, .long (200000000 : Int64)), (1, .long (0 : Int64)), (0, .ref c)]) dX4_findLevel_24 (by decide) rfl ?_
    refine sm_sub [3, 2, 1, 0] rfl ?_
    exact sL_X4_findLevel_26 Z  6000 c (0 : Int64) (200000000 : Int64) (0 : Int32) S
  refine sm_sub [] rfl ?_
  exact sJ_X4_findLevel_16 Z  S
set_option maxRecDepth 20000 in
set_option maxHeartbeats 4000000 in
theorem m_X4_findLevel (Z : ZT) (l : Launch) (c : Nat) (S : St) {r : Unit} {S' : St} (h : F_X4_findLevel c S = some (r, S')) : MetX Z l yX4_findLevel cX4_findLevel 8 none rm_X4_findLevel [.ref c] S (eV r) S' := Sim.met (by decide +kernel) rfl (Nat.le_of_ble_eq_true rfl) (s_X4_findLevel Z c S) l h
set_option maxRecDepth 20000 in
set_option maxHeartbeats 4000000 in
theorem sJ_X1_lend_31 (Z : ZT)    (S : St) : Sim eI Z rm_X1_lend RX1 cX1_lend 9 (some .int) 31 [] [] S (J_X1_lend_31  S) := by
  unfold J_X1_lend_31
  refine sm_iconst (pc := 31) (-1 : Int32) dX1_lend_31 (by decide) ?_
  exact sm_retI (pc := 32) dX1_lend_32
set_option maxRecDepth 20000 in
set_option maxHeartbeats 4000000 in
theorem sJ_X1_lend_64 (Z : ZT)    (S : St) : Sim eI Z rm_X1_lend RX1 cX1_lend 9 (some .int) 64 [] [] S (J_X1_lend_64  S) := by
  unfold J_X1_lend_64
  refine sm_iconst (pc := 64) (-1 : Int32) dX1_lend_64 (by decide) ?_
  exact sm_retI (pc := 65) dX1_lend_65
set_option maxRecDepth 20000 in
set_option maxHeartbeats 4000000 in
theorem s_X1_lend (Z : ZT) (c : Nat) (a1 : Int64) (a2 : Int32) (a3 : Int32) (a4 : Int32) (a5 : Int32) (a6 : Int32) (S : St) : Sim eI Z rm_X1_lend RX1 cX1_lend 9 (some .int) 0 [(0, .ref c), (1, .long a1), (3, .int a2), (4, .int a3), (5, .int a4), (6, .int a5), (7, .int a6)] [] S (F_X1_lend c a1 a2 a3 a4 a5 a6 S) := by
  unfold F_X1_lend
  refine sm_lload_n (pc := 0) dX1_lend_0 rfl 1 rfl ?_
  refine sm_lconst (pc := 1) (1 : Int64) dX1_lend_1 (by decide) ?_
  refine sm_lcmp_lt 31 (pc := 2) dX1_lend_2 dX1_lend_3 rfl ?_ ?_
  · refine sm_sub [] rfl ?_
    exact sJ_X1_lend_31 Z  S
  refine sm_lload_n (pc := 6) dX1_lend_6 rfl 1 rfl ?_
  refine sm_ldc2 (pc := 7) (100000000 : Int64) dX1_lend_7 kc_RX1_35 ?_
  refine sm_lcmp_gt 31 (pc := 10) dX1_lend_10 dX1_lend_11 rfl ?_ ?_
  · refine sm_sub [] rfl ?_
    exact sJ_X1_lend_31 Z  S
  refine sm_iload_n (pc := 14) dX1_lend_14 rfl 2 rfl ?_
  refine sm_callNI (pc := 15) [.int a2] (fun lq rq Sq hq => m_X7_isRate Z lq a2 S hq) dX1_lend_15 mi_X7_isRate (fun s h => h.2.2.2.2.1) ⟨Nat.le_of_ble_eq_true rfl, Nat.le_of_ble_eq_true rfl, rfl, rfl⟩ rfl (Nat.le_of_ble_eq_true rfl) rfl (fun r15 S15 => ?_)
  refine sm_if_eq 31 (pc := 18) dX1_lend_18 rfl ?_ ?_
  · refine sm_sub [] rfl ?_
    exact sJ_X1_lend_31 Z  S15
  refine sm_iload (pc := 21) dX1_lend_21 3 rfl ?_
  refine sm_iconst (pc := 23) (0 : Int32) dX1_lend_23 (by decide) ?_
  refine sm_iconst (pc := 24) (3 : Int32) dX1_lend_24 (by decide) ?_
  refine sm_callNI (pc := 25) [.int a3, .int (0 : Int32), .int (3 : Int32)] (fun lq rq Sq hq => m_X7_isWithin Z lq a3 (0 : Int32) (3 : Int32) S15 hq) dX1_lend_25 mi_X7_isWithin (fun s h => h.2.2.2.2.2) ⟨Nat.le_of_ble_eq_true rfl, Nat.le_of_ble_eq_true rfl, rfl, rfl⟩ rfl (Nat.le_of_ble_eq_true rfl) rfl (fun r25 S25 => ?_)
  refine sm_if_ne 33 (pc := 28) dX1_lend_28 rfl ?_ ?_
  · refine sm_iload (pc := 33) dX1_lend_33 4 rfl ?_
    refine sm_iconst (pc := 35) (0 : Int32) dX1_lend_35 (by decide) ?_
    refine sm_iconst (pc := 36) (2 : Int32) dX1_lend_36 (by decide) ?_
    refine sm_callNI (pc := 37) [.int a4, .int (0 : Int32), .int (2 : Int32)] (fun lq rq Sq hq => m_X7_isWithin Z lq a4 (0 : Int32) (2 : Int32) S25 hq) dX1_lend_37 mi_X7_isWithin (fun s h => h.2.2.2.2.2) ⟨Nat.le_of_ble_eq_true rfl, Nat.le_of_ble_eq_true rfl, rfl, rfl⟩ rfl (Nat.le_of_ble_eq_true rfl) rfl (fun r37 S37 => ?_)
    refine sm_if_eq 64 (pc := 40) dX1_lend_40 rfl ?_ ?_
    · refine sm_sub [] rfl ?_
      exact sJ_X1_lend_64 Z  S37
    refine sm_iload (pc := 43) dX1_lend_43 5 rfl ?_
    refine sm_iconst (pc := 45) (0 : Int32) dX1_lend_45 (by decide) ?_
    refine sm_iconst (pc := 46) (1 : Int32) dX1_lend_46 (by decide) ?_
    refine sm_callNI (pc := 47) [.int a5, .int (0 : Int32), .int (1 : Int32)] (fun lq rq Sq hq => m_X7_isWithin Z lq a5 (0 : Int32) (1 : Int32) S37 hq) dX1_lend_47 mi_X7_isWithin (fun s h => h.2.2.2.2.2) ⟨Nat.le_of_ble_eq_true rfl, Nat.le_of_ble_eq_true rfl, rfl, rfl⟩ rfl (Nat.le_of_ble_eq_true rfl) rfl (fun r47 S47 => ?_)
    refine sm_if_eq 64 (pc := 50) dX1_lend_50 rfl ?_ ?_
    · refine sm_sub [] rfl ?_
      exact sJ_X1_lend_64 Z  S47
    refine sm_iload (pc := 53) dX1_lend_53 6 rfl ?_
    refine sm_iconst (pc := 55) (1 : Int32) dX1_lend_55 (by decide) ?_
    refine sm_bipush (pc := 56) (60 : Int32) dX1_lend_56 (by decide) ?_
    refine sm_callNI (pc := 58) [.int a6, .int (1 : Int32), .int (60 : Int32)] (fun lq rq Sq hq => m_X7_isWithin Z lq a6 (1 : Int32) (60 : Int32) S47 hq) dX1_lend_58 mi_X7_isWithin (fun s h => h.2.2.2.2.2) ⟨Nat.le_of_ble_eq_true rfl, Nat.le_of_ble_eq_true rfl, rfl, rfl⟩ rfl (Nat.le_of_ble_eq_true rfl) rfl (fun r58 S58 => ?_)
    refine sm_if_ne 66 (pc := 61) dX1_lend_61 rfl ?_ ?_
    · refine sm_aload_n (pc := 66) dX1_lend_66 rfl 0 rfl ?_
      refine sm_getI (pc := 67) dX1_lend_67 fr_RX1_9 (by decide) rfl (fun v67 => ?_)
      refine sm_callSI (pc := 70) [.int v67] (fun lq rq Sq hq => m_X2_monthOf Z lq v67 S58 hq) dX1_lend_70 mi_X2_monthOf ml_RX1_45 ⟨Nat.le_of_ble_eq_true rfl, Nat.le_of_ble_eq_true rfl, rfl, rfl⟩ rfl (Nat.le_of_ble_eq_true rfl) rfl (fun r70 S70 => ?_)
      refine sm_iload (pc := 73) dX1_lend_73 6 rfl ?_
      refine sm_iadd (pc := 75) dX1_lend_75 ?_
      refine sm_callSI (pc := 76) [.int (r70 + a6)] (fun lq rq Sq hq => m_X2_firstOf Z lq (r70 + a6) S70 hq) dX1_lend_76 mi_X2_firstOf ml_RX1_51 ⟨Nat.le_of_ble_eq_true rfl, Nat.le_of_ble_eq_true rfl, rfl, rfl⟩ rfl (Nat.le_of_ble_eq_true rfl) rfl (fun r76 S76 => ?_)
      refine sm_ldc (pc := 79) (36524 : Int32) dX1_lend_79 kc_RX1_54 ?_
      refine sm_icmp_le 87 (pc := 81) dX1_lend_81 rfl ?_ ?_
      · refine sm_aload_n (pc := 87) dX1_lend_87 rfl 0 rfl ?_
        refine sm_getI (pc := 88) dX1_lend_88 fr_RX1_21 (by decide) rfl (fun v88 => ?_)
        refine sm_bipush (pc := 91) (8 : Int32) dX1_lend_91 (by decide) ?_
        refine sm_icmp_lt 99 (pc := 93) dX1_lend_93 rfl ?_ ?_
        · refine sm_aload_n (pc := 99) dX1_lend_99 rfl 0 rfl ?_
          refine sm_getR (pc := 100) dX1_lend_100 fr_RX1_26 (by decide) rfl (fun v100 => ?_)
          refine sm_aload_n (pc := 103) dX1_lend_103 rfl 0 rfl ?_
          refine sm_getI (pc := 104) dX1_lend_104 fr_RX1_21 (by decide) rfl (fun v104 => ?_)
          refine sm_aR (pc := 107) dX1_lend_107 (by decide) (fun v107 => ?_)
          refine sm_astore (pc := 108) (lv' := [(8, .ref v107), (0, .ref c), (1, .long a1), (3, .int a2), (4, .int a3), (5, .int a4), (6, .int a5), (7, .int a6)]) dX1_lend_108 (by decide) rfl ?_
          refine sm_aload (pc := 110) dX1_lend_110 0 rfl ?_
          refine sm_callVV (pc := 112) [] (fun lq rq Sq hq => m_X4_clear Z lq v107 S76 hq) dX1_lend_112 mi_X4_clear ml_RX1_55 ⟨Nat.le_of_ble_eq_true rfl, Nat.le_of_ble_eq_true rfl, rfl, rfl⟩ rfl (by decide) rfl (Nat.le_of_ble_eq_true rfl) rfl (fun _ S112 => ?_)
          refine sm_aload (pc := 115) dX1_lend_115 0 rfl ?_
          refine sm_lload_n (pc := 117) dX1_lend_117 rfl 2 rfl ?_
          refine sm_putL (pc := 118) dX1_lend_118 fw_RX1_58 (by decide) rfl (fun S118 => ?_)
          refine sm_aload (pc := 121) dX1_lend_121 0 rfl ?_
          refine sm_lload_n (pc := 123) dX1_lend_123 rfl 2 rfl ?_
          refine sm_putL (pc := 124) dX1_lend_124 fw_RX1_62 (by decide) rfl (fun S124 => ?_)
          refine sm_aload (pc := 127) dX1_lend_127 0 rfl ?_
          refine sm_iload_n (pc := 129) dX1_lend_129 rfl 3 rfl ?_
          refine sm_putI (pc := 130) dX1_lend_130 fw_RX1_65 (by decide) rfl (fun S130 => ?_)
          refine sm_aload (pc := 133) dX1_lend_133 0 rfl ?_
          refine sm_iload (pc := 135) dX1_lend_135 4 rfl ?_
          refine sm_putI (pc := 137) dX1_lend_137 fw_RX1_68 (by decide) rfl (fun S137 => ?_)
          refine sm_aload (pc := 140) dX1_lend_140 0 rfl ?_
          refine sm_iload (pc := 142) dX1_lend_142 5 rfl ?_
          refine sm_putI (pc := 144) dX1_lend_144 fw_RX1_71 (by decide) rfl (fun S144 => ?_)
          refine sm_aload (pc := 147) dX1_lend_147 0 rfl ?_
          refine sm_iload (pc := 149) dX1_lend_149 6 rfl ?_
          refine sm_putI (pc := 151) dX1_lend_151 fw_RX1_74 (by decide) rfl (fun S151 => ?_)
          refine sm_aload (pc := 154) dX1_lend_154 0 rfl ?_
          refine sm_iload (pc := 156) dX1_lend_156 7 rfl ?_
          refine sm_putI (pc := 158) dX1_lend_158 fw_RX1_77 (by decide) rfl (fun S158 => ?_)
          refine sm_aload (pc := 161) dX1_lend_161 0 rfl ?_
          refine sm_aload_n (pc := 163) dX1_lend_163 rfl 1 rfl ?_
          refine sm_getI (pc := 164) dX1_lend_164 fr_RX1_9 (by decide) rfl (fun v164 => ?_)
          refine sm_callVV (pc := 167) [.int v164] (fun lq rq Sq hq => m_X4_layPeriods Z lq v107 v164 S158 hq) dX1_lend_167 mi_X4_layPeriods ml_RX1_80 ⟨Nat.le_of_ble_eq_true rfl, Nat.le_of_ble_eq_true rfl, rfl, rfl⟩ rfl (by decide) rfl (Nat.le_of_ble_eq_true rfl) rfl (fun _ S167 => ?_)
          refine sm_aload (pc := 170) dX1_lend_170 0 rfl ?_
          refine sm_callVV (pc := 172) [] (fun lq rq Sq hq => m_X4_findLevel Z lq v107 S167 hq) dX1_lend_172 mi_X4_findLevel ml_RX1_84 ⟨Nat.le_of_ble_eq_true rfl, Nat.le_of_ble_eq_true rfl, rfl, rfl⟩ rfl (by decide) rfl (Nat.le_of_ble_eq_true rfl) rfl (fun _ S172 => ?_)
          refine sm_aload_n (pc := 175) dX1_lend_175 rfl 1 rfl ?_
          refine sm_dup (pc := 176) dX1_lend_176 rfl ?_
          refine sm_getI (pc := 177) dX1_lend_177 fr_RX1_21 (by decide) rfl (fun v177 => ?_)
          refine sm_iconst (pc := 180) (1 : Int32) dX1_lend_180 (by decide) ?_
          refine sm_iadd (pc := 181) dX1_lend_181 ?_
          refine sm_putI (pc := 182) dX1_lend_182 fw_RX1_21 (by decide) rfl (fun S182 => ?_)
          refine sm_aload_n (pc := 185) dX1_lend_185 rfl 1 rfl ?_
          refine sm_getI (pc := 186) dX1_lend_186 fr_RX1_21 (by decide) rfl (fun v186 => ?_)
          refine sm_iconst (pc := 189) (1 : Int32) dX1_lend_189 (by decide) ?_
          refine sm_isub (pc := 190) dX1_lend_190 ?_
          exact sm_retI (pc := 191) dX1_lend_191
        refine sm_bipush (pc := 96) (-3 : Int32) dX1_lend_96 (by decide) ?_
        exact sm_retI (pc := 98) dX1_lend_98
      refine sm_bipush (pc := 84) (-5 : Int32) dX1_lend_84 (by decide) ?_
      exact sm_retI (pc := 86) dX1_lend_86
    refine sm_sub [] rfl ?_
    exact sJ_X1_lend_64 Z  S58
  refine sm_sub [] rfl ?_
  exact sJ_X1_lend_31 Z  S25
set_option maxRecDepth 20000 in
set_option maxHeartbeats 4000000 in
theorem m_X1_lend (Z : ZT) (l : Launch) (c : Nat) (a1 : Int64) (a2 : Int32) (a3 : Int32) (a4 : Int32) (a5 : Int32) (a6 : Int32) (S : St) {r : Int32} {S' : St} (h : F_X1_lend c a1 a2 a3 a4 a5 a6 S = some (r, S')) : MetX Z l yX1_lend cX1_lend 9 (some .int) rm_X1_lend [.ref c, .long a1, .int a2, .int a3, .int a4, .int a5, .int a6] S (eI r) S' := Sim.met (by decide +kernel) rfl (Nat.le_of_ble_eq_true rfl) (s_X1_lend Z c a1 a2 a3 a4 a5 a6 S) l h
set_option maxRecDepth 20000 in
set_option maxHeartbeats 4000000 in
theorem s_X4_principalOf (Z : ZT) (c : Nat) (a1 : Int32) (a2 : Int64) (a3 : Int64) (S : St) : Sim eL Z rm_X4_principalOf RX4 cX4_principalOf 7 (some .long) 0 [(0, .ref c), (1, .int a1), (2, .long a2), (4, .long a3)] [] S (F_X4_principalOf c a1 a2 a3 S) := by
  unfold F_X4_principalOf
  refine sm_aload_n (pc := 0) dX4_principalOf_0 rfl 0 rfl ?_
  refine sm_getI (pc := 1) dX4_principalOf_1 fr_RX4_67 (by decide) rfl (fun v1 => ?_)
  refine sm_iload_n (pc := 4) dX4_principalOf_4 rfl 1 rfl ?_
  refine sm_isub (pc := 5) dX4_principalOf_5 ?_
  refine sm_iconst (pc := 6) (1 : Int32) dX4_principalOf_6 (by decide) ?_
  refine sm_iadd (pc := 7) dX4_principalOf_7 ?_
  refine sm_bdI (fun v8 => ?_)
  refine sm_istore (pc := 8) (lv' := [(6, .int v8), (0, .ref c), (1, .int a1), (2, .long a2), (4, .long a3)]) dX4_principalOf_8 (by decide) rfl ?_
  refine sm_iload (pc := 10) dX4_principalOf_10 0 rfl ?_
  refine sm_iconst (pc := 12) (1 : Int32) dX4_principalOf_12 (by decide) ?_
  refine sm_icmp_gt 18 (pc := 13) dX4_principalOf_13 rfl ?_ ?_
  · refine sm_aload_n (pc := 18) dX4_principalOf_18 rfl 1 rfl ?_
    refine sm_getI (pc := 19) dX4_principalOf_19 fr_RX4_61 (by decide) rfl (fun v19 => ?_)
    refine sm_lswk (pc := 22) 65 [48, 59] [0, 1] dX4_principalOf_22 rfl (by decide) (by decide) (by decide) (by decide) rfl ⟨?_, ?_, trivial⟩ ?_
    · refine sm_aload_n (pc := 48) dX4_principalOf_48 rfl 1 rfl ?_
      refine sm_getL (pc := 49) dX4_principalOf_49 fr_RX4_39 (by decide) rfl (fun v49 => ?_)
      refine sm_lload_n (pc := 52) dX4_principalOf_52 rfl 3 rfl ?_
      refine sm_lload (pc := 53) dX4_principalOf_53 4 rfl ?_
      refine sm_callSL (pc := 55) [.long v49, .long a2, .long a3] (fun lq rq Sq hq => m_X4_repaidBy Z lq v49 a2 a3 S hq) dX4_principalOf_55 mi_X4_repaidBy ml_RX4_108 ⟨Nat.le_of_ble_eq_true rfl, Nat.le_of_ble_eq_true rfl, rfl, rfl⟩ rfl (Nat.le_of_ble_eq_true rfl) rfl (fun r55 S55 => ?_)
      exact sm_retL (pc := 58) dX4_principalOf_58
    · refine sm_lload_n (pc := 59) dX4_principalOf_59 rfl 3 rfl ?_
      refine sm_iload (pc := 60) dX4_principalOf_60 0 rfl ?_
      refine sm_i2l (pc := 62) dX4_principalOf_62 ?_
      refine sm_ldiv (pc := 63) dX4_principalOf_63 ?_
      exact sm_retL (pc := 64) dX4_principalOf_64
    refine sm_lconst (pc := 65) (0 : Int64) dX4_principalOf_65 (by decide) ?_
    exact sm_retL (pc := 66) dX4_principalOf_66
  refine sm_lload_n (pc := 16) dX4_principalOf_16 rfl 3 rfl ?_
  exact sm_retL (pc := 17) dX4_principalOf_17
set_option maxRecDepth 20000 in
set_option maxHeartbeats 4000000 in
theorem m_X4_principalOf (Z : ZT) (l : Launch) (c : Nat) (a1 : Int32) (a2 : Int64) (a3 : Int64) (S : St) {r : Int64} {S' : St} (h : F_X4_principalOf c a1 a2 a3 S = some (r, S')) : MetX Z l yX4_principalOf cX4_principalOf 7 (some .long) rm_X4_principalOf [.ref c, .int a1, .long a2, .long a3] S (eL r) S' := Sim.met (by decide +kernel) rfl (Nat.le_of_ble_eq_true rfl) (s_X4_principalOf Z c a1 a2 a3 S) l h
set_option maxRecDepth 20000 in
set_option maxHeartbeats 4000000 in
theorem s_X4_asks (Z : ZT) (c : Nat) (a1 : Int32) (S : St) : Sim eL Z rm_X4_asks RX4 cX4_asks 2 (some .long) 0 [(0, .ref c), (1, .int a1)] [] S (F_X4_asks c a1 S) := by
  unfold F_X4_asks
  refine sm_aload_n (pc := 0) dX4_asks_0 rfl 0 rfl ?_
  refine sm_getR (pc := 1) dX4_asks_1 fr_RX4_19 (by decide) rfl (fun v1 => ?_)
  refine sm_iload_n (pc := 4) dX4_asks_4 rfl 1 rfl ?_
  refine sm_aJ (pc := 5) dX4_asks_5 (fun v5 => ?_)
  refine sm_aload_n (pc := 6) dX4_asks_6 rfl 0 rfl ?_
  refine sm_getR (pc := 7) dX4_asks_7 fr_RX4_22 (by decide) rfl (fun v7 => ?_)
  refine sm_iload_n (pc := 10) dX4_asks_10 rfl 1 rfl ?_
  refine sm_aJ (pc := 11) dX4_asks_11 (fun v11 => ?_)
  refine sm_ladd (pc := 12) dX4_asks_12 ?_
  refine sm_aload_n (pc := 13) dX4_asks_13 rfl 0 rfl ?_
  refine sm_getR (pc := 14) dX4_asks_14 fr_RX4_25 (by decide) rfl (fun v14 => ?_)
  refine sm_iload_n (pc := 17) dX4_asks_17 rfl 1 rfl ?_
  refine sm_aJ (pc := 18) dX4_asks_18 (fun v18 => ?_)
  refine sm_ladd (pc := 19) dX4_asks_19 ?_
  exact sm_retL (pc := 20) dX4_asks_20
set_option maxRecDepth 20000 in
set_option maxHeartbeats 4000000 in
theorem m_X4_asks (Z : ZT) (l : Launch) (c : Nat) (a1 : Int32) (S : St) {r : Int64} {S' : St} (h : F_X4_asks c a1 S = some (r, S')) : MetX Z l yX4_asks cX4_asks 2 (some .long) rm_X4_asks [.ref c, .int a1] S (eL r) S' := Sim.met (by decide +kernel) rfl (Nat.le_of_ble_eq_true rfl) (s_X4_asks Z c a1 S) l h
set_option maxRecDepth 20000 in
set_option maxHeartbeats 4000000 in
theorem sJ_X4_endPeriods_96 (Z : ZT) (rec9 : (Nat → Int32 → Int32 → Int32 → St → Option (Int32 × St))) (h9 : ∀ (x0 : Nat) (x1 : Int32) (x2 : Int32) (x3 : Int32)  (S : St), Sim eI Z rm_X4_endPeriods RX4 cX4_endPeriods 4 (some .int) 9 [(0, .ref x0), (1, .int x1), (2, .int x2), (3, .int x3)] [] S (rec9 x0 x1 x2 x3 S)) (x0 : Nat) (x1 : Int32) (x2 : Int32) (x3 : Int32)  (S : St) : Sim eI Z rm_X4_endPeriods RX4 cX4_endPeriods 4 (some .int) 96 [(0, .ref x0), (1, .int x1), (2, .int x2), (3, .int x3)] [] S (J_X4_endPeriods_96 rec9 x0 x1 x2 x3 S) := by
  unfold J_X4_endPeriods_96
  refine sm_iinc (pc := 96) (x3 + 1) (lv' := [(3, .int (x3 + 1)), (0, .ref x0), (1, .int x1), (2, .int x2)]) dX4_endPeriods_96 3 rfl rfl (by decide) rfl ?_
  refine sm_goto 9 (pc := 99) dX4_endPeriods_99 rfl ?_
  refine sm_sub [1, 2, 3, 0] rfl ?_
  exact h9 x0 x1 x2 (x3 + 1) S
set_option maxRecDepth 20000 in
set_option maxHeartbeats 4000000 in
theorem sJ_X4_endPeriods_102 (Z : ZT)  (x2 : Int32)  (S : St) : Sim eI Z rm_X4_endPeriods RX4 cX4_endPeriods 4 (some .int) 102 [(2, .int x2)] [] S (J_X4_endPeriods_102  x2 S) := by
  unfold J_X4_endPeriods_102
  refine sm_iload_n (pc := 102) dX4_endPeriods_102 rfl 0 rfl ?_
  exact sm_retI (pc := 103) dX4_endPeriods_103
set_option maxRecDepth 20000 in
set_option maxHeartbeats 4000000 in
theorem sB_X4_endPeriods_9 (Z : ZT) (rec9 : (Nat → Int32 → Int32 → Int32 → St → Option (Int32 × St))) (h9 : ∀ (x0 : Nat) (x1 : Int32) (x2 : Int32) (x3 : Int32)  (S : St), Sim eI Z rm_X4_endPeriods RX4 cX4_endPeriods 4 (some .int) 9 [(0, .ref x0), (1, .int x1), (2, .int x2), (3, .int x3)] [] S (rec9 x0 x1 x2 x3 S)) (x0 : Nat) (x1 : Int32) (x2 : Int32) (x3 : Int32)  (S : St) : Sim eI Z rm_X4_endPeriods RX4 cX4_endPeriods 4 (some .int) 9 [(0, .ref x0), (1, .int x1), (2, .int x2), (3, .int x3)] [] S (B_X4_endPeriods_9 rec9 x0 x1 x2 x3 S) := by
  unfold B_X4_endPeriods_9
  refine sm_iload_n (pc := 9) dX4_endPeriods_9 rfl 3 rfl ?_
  refine sm_aload_n (pc := 10) dX4_endPeriods_10 rfl 0 rfl ?_
  refine sm_getI (pc := 11) dX4_endPeriods_11 fr_RX4_67 (by decide) rfl (fun v11 => ?_)
  refine sm_icmp_gt 102 (pc := 14) dX4_endPeriods_14 rfl ?_ ?_
  · refine sm_sub [2] rfl ?_
    exact sJ_X4_endPeriods_102 Z  x2 S
  refine sm_aload_n (pc := 17) dX4_endPeriods_17 rfl 0 rfl ?_
  refine sm_getR (pc := 18) dX4_endPeriods_18 fr_RX4_9 (by decide) rfl (fun v18 => ?_)
  refine sm_iload_n (pc := 21) dX4_endPeriods_21 rfl 3 rfl ?_
  refine sm_aI (pc := 22) dX4_endPeriods_22 (fun v22 => ?_)
  refine sm_iload_n (pc := 23) dX4_endPeriods_23 rfl 1 rfl ?_
  refine sm_icmp_gt 102 (pc := 24) dX4_endPeriods_24 rfl ?_ ?_
  · refine sm_sub [2] rfl ?_
    exact sJ_X4_endPeriods_102 Z  x2 S
  refine sm_aload_n (pc := 27) dX4_endPeriods_27 rfl 0 rfl ?_
  refine sm_getR (pc := 28) dX4_endPeriods_28 fr_RX4_22 (by decide) rfl (fun v28 => ?_)
  refine sm_iload_n (pc := 31) dX4_endPeriods_31 rfl 3 rfl ?_
  refine sm_aload_n (pc := 32) dX4_endPeriods_32 rfl 0 rfl ?_
  refine sm_iload_n (pc := 33) dX4_endPeriods_33 rfl 3 rfl ?_
  refine sm_aload_n (pc := 34) dX4_endPeriods_34 rfl 0 rfl ?_
  refine sm_getL (pc := 35) dX4_endPeriods_35 fr_RX4_36 (by decide) rfl (fun v35 => ?_)
  refine sm_callVL (pc := 38) [.int x3, .long v35] (fun lq rq Sq hq => m_X4_interestOf Z lq x0 x3 v35 S hq) dX4_endPeriods_38 mi_X4_interestOf ml_RX4_126 ⟨Nat.le_of_ble_eq_true rfl, Nat.le_of_ble_eq_true rfl, rfl, rfl⟩ rfl (by decide) rfl (Nat.le_of_ble_eq_true rfl) rfl (fun r38 S38 => ?_)
  refine sm_sJ (pc := 41) dX4_endPeriods_41 (fun S41 => ?_)
  refine sm_aload_n (pc := 42) dX4_endPeriods_42 rfl 0 rfl ?_
  refine sm_getR (pc := 43) dX4_endPeriods_43 fr_RX4_25 (by decide) rfl (fun v43 => ?_)
  refine sm_iload_n (pc := 46) dX4_endPeriods_46 rfl 3 rfl ?_
  refine sm_aload_n (pc := 47) dX4_endPeriods_47 rfl 0 rfl ?_
  refine sm_iload_n (pc := 48) dX4_endPeriods_48 rfl 3 rfl ?_
  refine sm_aload_n (pc := 49) dX4_endPeriods_49 rfl 0 rfl ?_
  refine sm_getL (pc := 50) dX4_endPeriods_50 fr_RX4_36 (by decide) rfl (fun v50 => ?_)
  refine sm_aload_n (pc := 53) dX4_endPeriods_53 rfl 0 rfl ?_
  refine sm_getR (pc := 54) dX4_endPeriods_54 fr_RX4_22 (by decide) rfl (fun v54 => ?_)
  refine sm_iload_n (pc := 57) dX4_endPeriods_57 rfl 3 rfl ?_
  refine sm_aJ (pc := 58) dX4_endPeriods_58 (fun v58 => ?_)
  refine sm_callVL (pc := 59) [.int x3, .long v50, .long v58] (fun lq rq Sq hq => m_X4_principalOf Z lq x0 x3 v50 v58 S41 hq) dX4_endPeriods_59 mi_X4_principalOf ml_RX4_130 ⟨Nat.le_of_ble_eq_true rfl, Nat.le_of_ble_eq_true rfl, rfl, rfl⟩ rfl (by decide) rfl (Nat.le_of_ble_eq_true rfl) rfl (fun r59 S59 => ?_)
  refine sm_sJ (pc := 62) dX4_endPeriods_62 (fun S62 => ?_)
  refine sm_aload_n (pc := 63) dX4_endPeriods_63 rfl 0 rfl ?_
  refine sm_dup (pc := 64) dX4_endPeriods_64 rfl ?_
  refine sm_getL (pc := 65) dX4_endPeriods_65 fr_RX4_36 (by decide) rfl (fun v65 => ?_)
  refine sm_aload_n (pc := 68) dX4_endPeriods_68 rfl 0 rfl ?_
  refine sm_getR (pc := 69) dX4_endPeriods_69 fr_RX4_25 (by decide) rfl (fun v69 => ?_)
  refine sm_iload_n (pc := 72) dX4_endPeriods_72 rfl 3 rfl ?_
  refine sm_aJ (pc := 73) dX4_endPeriods_73 (fun v73 => ?_)
  refine sm_lsub (pc := 74) dX4_endPeriods_74 ?_
  refine sm_putL (pc := 75) dX4_endPeriods_75 fw_RX4_36 (by decide) rfl (fun S75 => ?_)
  refine sm_aload_n (pc := 78) dX4_endPeriods_78 rfl 0 rfl ?_
  refine sm_iload_n (pc := 79) dX4_endPeriods_79 rfl 3 rfl ?_
  refine sm_putI (pc := 80) dX4_endPeriods_80 fw_RX4_70 (by decide) rfl (fun S80 => ?_)
  refine sm_aload_n (pc := 83) dX4_endPeriods_83 rfl 0 rfl ?_
  refine sm_iload_n (pc := 84) dX4_endPeriods_84 rfl 3 rfl ?_
  refine sm_callVL (pc := 85) [.int x3] (fun lq rq Sq hq => m_X4_asks Z lq x0 x3 S80 hq) dX4_endPeriods_85 mi_X4_asks ml_RX4_134 ⟨Nat.le_of_ble_eq_true rfl, Nat.le_of_ble_eq_true rfl, rfl, rfl⟩ rfl (by decide) rfl (Nat.le_of_ble_eq_true rfl) rfl (fun r85 S85 => ?_)
  refine sm_lconst (pc := 88) (0 : Int64) dX4_endPeriods_88 (by decide) ?_
  refine sm_lcmp_le 96 (pc := 89) dX4_endPeriods_89 dX4_endPeriods_90 rfl ?_ ?_
  · refine sm_sub [0, 1, 2, 3] rfl ?_
    exact sJ_X4_endPeriods_96 Z rec9 h9 x0 x1 x2 x3 S85
  refine sm_iinc (pc := 93) (x2 + 1) (lv' := [(2, .int (x2 + 1)), (0, .ref x0), (1, .int x1), (3, .int x3)]) dX4_endPeriods_93 2 rfl rfl (by decide) rfl ?_
  refine sm_sub [1, 2, 0, 3] rfl ?_
  exact sJ_X4_endPeriods_96 Z rec9 h9 x0 x1 (x2 + 1) x3 S85
set_option maxRecDepth 20000 in
set_option maxHeartbeats 4000000 in
theorem sL_X4_endPeriods_9 (Z : ZT)  (n : Nat) : ∀ (x0 : Nat) (x1 : Int32) (x2 : Int32) (x3 : Int32)  (S : St), Sim eI Z rm_X4_endPeriods RX4 cX4_endPeriods 4 (some .int) 9 [(0, .ref x0), (1, .int x1), (2, .int x2), (3, .int x3)] [] S (L_X4_endPeriods_9  n x0 x1 x2 x3 S) := by
  induction n with
  | zero => intros; exact sm_none
  | succ n ih => intro x0 x1 x2 x3 S; exact sB_X4_endPeriods_9 Z  (L_X4_endPeriods_9  n) ih x0 x1 x2 x3 S
set_option maxRecDepth 20000 in
set_option maxHeartbeats 4000000 in
theorem s_X4_endPeriods (Z : ZT) (c : Nat) (a1 : Int32) (S : St) : Sim eI Z rm_X4_endPeriods RX4 cX4_endPeriods 4 (some .int) 0 [(0, .ref c), (1, .int a1)] [] S (F_X4_endPeriods c a1 S) := by
  unfold F_X4_endPeriods
  refine sm_iconst (pc := 0) (0 : Int32) dX4_endPeriods_0 (by decide) ?_
  refine sm_istore_n (pc := 1) (lv' := [(2, .int (0 : Int32)), (0, .ref c), (1, .int a1)]) dX4_endPeriods_1 rfl (by decide) rfl ?_
  refine sm_aload_n (pc := 2) dX4_endPeriods_2 rfl 1 rfl ?_
  refine sm_getI (pc := 3) dX4_endPeriods_3 fr_RX4_70 (by decide) rfl (fun v3 => ?_)
  refine sm_iconst (pc := 6) (1 : Int32) dX4_endPeriods_6 (by decide) ?_
  refine sm_iadd (pc := 7) dX4_endPeriods_7 ?_
  refine sm_bdI (fun v8 => ?_)
  refine sm_istore_n (pc := 8) (lv' := [(3, .int v8), (2, .int (0 : Int32)), (0, .ref c), (1, .int a1)]) dX4_endPeriods_8 rfl (by decide) rfl ?_
  refine sm_sub [2, 3, 1, 0] rfl ?_
  exact sL_X4_endPeriods_9 Z  6000 c a1 (0 : Int32) v8 S
set_option maxRecDepth 20000 in
set_option maxHeartbeats 4000000 in
theorem m_X4_endPeriods (Z : ZT) (l : Launch) (c : Nat) (a1 : Int32) (S : St) {r : Int32} {S' : St} (h : F_X4_endPeriods c a1 S = some (r, S')) : MetX Z l yX4_endPeriods cX4_endPeriods 4 (some .int) rm_X4_endPeriods [.ref c, .int a1] S (eI r) S' := Sim.met (by decide +kernel) rfl (Nat.le_of_ble_eq_true rfl) (s_X4_endPeriods Z c a1 S) l h
set_option maxRecDepth 20000 in
set_option maxHeartbeats 4000000 in
theorem sJ_X4_chargeLate_74 (Z : ZT) (rec3 : (Nat → Int32 → Int32 → Int32 → Int32 → Int32 → St → Option (Unit × St))) (h3 : ∀ (x0 : Nat) (x1 : Int32) (x2 : Int32) (x3 : Int32) (x4 : Int32) (x5 : Int32)  (S : St), Sim eV Z rm_X4_chargeLate RX4 cX4_chargeLate 7 none 3 [(0, .ref x0), (1, .int x1), (2, .int x2), (3, .int x3), (4, .int x4), (5, .int x5)] [] S (rec3 x0 x1 x2 x3 x4 x5 S)) (x0 : Nat) (x1 : Int32) (x2 : Int32) (x3 : Int32) (x4 : Int32) (x5 : Int32)  (S : St) : Sim eV Z rm_X4_chargeLate RX4 cX4_chargeLate 7 none 74 [(0, .ref x0), (1, .int x1), (2, .int x2), (3, .int x3), (4, .int x4), (5, .int x5)] [] S (J_X4_chargeLate_74 rec3 x0 x1 x2 x3 x4 x5 S) := by
  unfold J_X4_chargeLate_74
  refine sm_iinc (pc := 74) (x5 + 1) (lv' := [(5, .int (x5 + 1)), (0, .ref x0), (1, .int x1), (2, .int x2), (3, .int x3), (4, .int x4)]) dX4_chargeLate_74 5 rfl rfl (by decide) rfl ?_
  refine sm_goto 3 (pc := 77) dX4_chargeLate_77 rfl ?_
  refine sm_sub [1, 2, 3, 4, 5, 0] rfl ?_
  exact h3 x0 x1 x2 x3 x4 (x5 + 1) S
set_option maxRecDepth 20000 in
set_option maxHeartbeats 4000000 in
theorem sB_X4_chargeLate_3 (Z : ZT) (rec3 : (Nat → Int32 → Int32 → Int32 → Int32 → Int32 → St → Option (Unit × St))) (h3 : ∀ (x0 : Nat) (x1 : Int32) (x2 : Int32) (x3 : Int32) (x4 : Int32) (x5 : Int32)  (S : St), Sim eV Z rm_X4_chargeLate RX4 cX4_chargeLate 7 none 3 [(0, .ref x0), (1, .int x1), (2, .int x2), (3, .int x3), (4, .int x4), (5, .int x5)] [] S (rec3 x0 x1 x2 x3 x4 x5 S)) (x0 : Nat) (x1 : Int32) (x2 : Int32) (x3 : Int32) (x4 : Int32) (x5 : Int32)  (S : St) : Sim eV Z rm_X4_chargeLate RX4 cX4_chargeLate 7 none 3 [(0, .ref x0), (1, .int x1), (2, .int x2), (3, .int x3), (4, .int x4), (5, .int x5)] [] S (B_X4_chargeLate_3 rec3 x0 x1 x2 x3 x4 x5 S) := by
  unfold B_X4_chargeLate_3
  refine sm_iload (pc := 3) dX4_chargeLate_3 5 rfl ?_
  refine sm_aload_n (pc := 5) dX4_chargeLate_5 rfl 0 rfl ?_
  refine sm_getI (pc := 6) dX4_chargeLate_6 fr_RX4_70 (by decide) rfl (fun v6 => ?_)
  refine sm_icmp_gt 80 (pc := 9) dX4_chargeLate_9 rfl ?_ ?_
  · exact sm_retV (pc := 80) dX4_chargeLate_80
  refine sm_aload_n (pc := 12) dX4_chargeLate_12 rfl 0 rfl ?_
  refine sm_getR (pc := 13) dX4_chargeLate_13 fr_RX4_9 (by decide) rfl (fun v13 => ?_)
  refine sm_iload (pc := 16) dX4_chargeLate_16 5 rfl ?_
  refine sm_aI (pc := 18) dX4_chargeLate_18 (fun v18 => ?_)
  refine sm_iload_n (pc := 19) dX4_chargeLate_19 rfl 3 rfl ?_
  refine sm_iadd (pc := 20) dX4_chargeLate_20 ?_
  refine sm_bdI (fun v21 => ?_)
  refine sm_istore (pc := 21) (lv' := [(6, .int v21), (0, .ref x0), (1, .int x1), (2, .int x2), (3, .int x3), (4, .int x4), (5, .int x5)]) dX4_chargeLate_21 (by decide) rfl ?_
  refine sm_aload_n (pc := 23) dX4_chargeLate_23 rfl 1 rfl ?_
  refine sm_iload (pc := 24) dX4_chargeLate_24 6 rfl ?_
  refine sm_callVL (pc := 26) [.int x5] (fun lq rq Sq hq => m_X4_asks Z lq x0 x5 S hq) dX4_chargeLate_26 mi_X4_asks ml_RX4_134 ⟨Nat.le_of_ble_eq_true rfl, Nat.le_of_ble_eq_true rfl, rfl, rfl⟩ rfl (by decide) rfl (Nat.le_of_ble_eq_true rfl) rfl (fun r26 S26 => ?_)
  refine sm_lconst (pc := 29) (0 : Int64) dX4_chargeLate_29 (by decide) ?_
  refine sm_lcmp_le 74 (pc := 30) dX4_chargeLate_30 dX4_chargeLate_31 rfl ?_ ?_
  · refine sm_sub [1, 2, 3, 4, 5, 6] rfl ?_
    exact sJ_X4_chargeLate_74 Z rec3 h3 x0 x1 x2 x3 x4 x5 S26
  refine sm_aload_n (pc := 34) dX4_chargeLate_34 rfl 1 rfl ?_
  refine sm_getR (pc := 35) dX4_chargeLate_35 fr_RX4_28 (by decide) rfl (fun v35 => ?_)
  refine sm_iload (pc := 38) dX4_chargeLate_38 6 rfl ?_
  refine sm_aZ (pc := 40) dX4_chargeLate_40 (fun v40 => ?_)
  refine sm_if_ne 74 (pc := 41) dX4_chargeLate_41 rfl ?_ ?_
  · refine sm_sub [1, 2, 3, 4, 5, 6] rfl ?_
    exact sJ_X4_chargeLate_74 Z rec3 h3 x0 x1 x2 x3 x4 x5 S26
  refine sm_iload (pc := 44) dX4_chargeLate_44 0 rfl ?_
  refine sm_iload_n (pc := 46) dX4_chargeLate_46 rfl 2 rfl ?_
  refine sm_icmp_lt 74 (pc := 47) dX4_chargeLate_47 rfl ?_ ?_
  · refine sm_sub [1, 2, 3, 4, 5, 6] rfl ?_
    exact sJ_X4_chargeLate_74 Z rec3 h3 x0 x1 x2 x3 x4 x5 S26
  refine sm_iload (pc := 50) dX4_chargeLate_50 0 rfl ?_
  refine sm_iload_n (pc := 52) dX4_chargeLate_52 rfl 3 rfl ?_
  refine sm_icmp_gt 74 (pc := 53) dX4_chargeLate_53 rfl ?_ ?_
  · refine sm_sub [1, 2, 3, 4, 5, 6] rfl ?_
    exact sJ_X4_chargeLate_74 Z rec3 h3 x0 x1 x2 x3 x4 x5 S26
  refine sm_aload_n (pc := 56) dX4_chargeLate_56 rfl 1 rfl ?_
  refine sm_getR (pc := 57) dX4_chargeLate_57 fr_RX4_19 (by decide) rfl (fun v57 => ?_)
  refine sm_iload (pc := 60) dX4_chargeLate_60 6 rfl ?_
  refine sm_iload (pc := 62) dX4_chargeLate_62 5 rfl ?_
  refine sm_i2l (pc := 64) dX4_chargeLate_64 ?_
  refine sm_sJ (pc := 65) dX4_chargeLate_65 (fun S65 => ?_)
  refine sm_aload_n (pc := 66) dX4_chargeLate_66 rfl 1 rfl ?_
  refine sm_getR (pc := 67) dX4_chargeLate_67 fr_RX4_28 (by decide) rfl (fun v67 => ?_)
  refine sm_iload (pc := 70) dX4_chargeLate_70 6 rfl ?_
  refine sm_iconst (pc := 72) (1 : Int32) dX4_chargeLate_72 (by decide) ?_
  refine sm_sZ (pc := 73) dX4_chargeLate_73 (fun S73 => ?_)
  refine sm_sub [1, 2, 3, 4, 5, 6] rfl ?_
  exact sJ_X4_chargeLate_74 Z rec3 h3 x0 x1 x2 x3 x4 x5 S73
set_option maxRecDepth 20000 in
set_option maxHeartbeats 4000000 in
theorem sL_X4_chargeLate_3 (Z : ZT)  (n : Nat) : ∀ (x0 : Nat) (x1 : Int32) (x2 : Int32) (x3 : Int32) (x4 : Int32) (x5 : Int32)  (S : St), Sim eV Z rm_X4_chargeLate RX4 cX4_chargeLate 7 none 3 [(0, .ref x0), (1, .int x1), (2, .int x2), (3, .int x3), (4, .int x4), (5, .int x5)] [] S (L_X4_chargeLate_3  n x0 x1 x2 x3 x4 x5 S) := by
  induction n with
  | zero => intros; exact sm_none
  | succ n ih => intro x0 x1 x2 x3 x4 x5 S; exact sB_X4_chargeLate_3 Z  (L_X4_chargeLate_3  n) ih x0 x1 x2 x3 x4 x5 S
set_option maxRecDepth 20000 in
set_option maxHeartbeats 4000000 in
theorem s_X4_chargeLate (Z : ZT) (c : Nat) (a1 : Int32) (a2 : Int32) (a3 : Int32) (a4 : Int32) (S : St) : Sim eV Z rm_X4_chargeLate RX4 cX4_chargeLate 7 none 0 [(0, .ref c), (1, .int a1), (2, .int a2), (3, .int a3), (4, .int a4)] [] S (F_X4_chargeLate c a1 a2 a3 a4 S) := by
  unfold F_X4_chargeLate
  refine sm_iconst (pc := 0) (1 : Int32) dX4_chargeLate_0 (by decide) ?_
  refine sm_istore (pc := 1) (lv' := [(5, .int (1 : Int32)), (0, .ref c), (1, .int a1), (2, .int a2), (3, .int a3), (4, .int a4)]) dX4_chargeLate_1 (by decide) rfl ?_
  refine sm_sub [1, 2, 3, 4, 5, 0] rfl ?_
  exact sL_X4_chargeLate_3 Z  6000 c a1 a2 a3 a4 (1 : Int32) S
set_option maxRecDepth 20000 in
set_option maxHeartbeats 4000000 in
theorem m_X4_chargeLate (Z : ZT) (l : Launch) (c : Nat) (a1 : Int32) (a2 : Int32) (a3 : Int32) (a4 : Int32) (S : St) {r : Unit} {S' : St} (h : F_X4_chargeLate c a1 a2 a3 a4 S = some (r, S')) : MetX Z l yX4_chargeLate cX4_chargeLate 7 none rm_X4_chargeLate [.ref c, .int a1, .int a2, .int a3, .int a4] S (eV r) S' := Sim.met (by decide +kernel) rfl (Nat.le_of_ble_eq_true rfl) (s_X4_chargeLate Z c a1 a2 a3 a4 S) l h
set_option maxRecDepth 20000 in
set_option maxHeartbeats 4000000 in
theorem sB_X1_passDays_4 (Z : ZT) (rec4 : (Nat → Int32 → Int32 → Int32 → St → Option (Int32 × St))) (h4 : ∀ (x0 : Nat) (x1 : Int32) (x2 : Int32) (x3 : Int32)  (S : St), Sim eI Z rm_X1_passDays RX1 cX1_passDays 4 (some .int) 4 [(0, .ref x0), (1, .int x1), (2, .int x2), (3, .int x3)] [] S (rec4 x0 x1 x2 x3 S)) (x0 : Nat) (x1 : Int32) (x2 : Int32) (x3 : Int32)  (S : St) : Sim eI Z rm_X1_passDays RX1 cX1_passDays 4 (some .int) 4 [(0, .ref x0), (1, .int x1), (2, .int x2), (3, .int x3)] [] S (B_X1_passDays_4 rec4 x0 x1 x2 x3 S) := by
  unfold B_X1_passDays_4
  refine sm_iload_n (pc := 4) dX1_passDays_4 rfl 3 rfl ?_
  refine sm_aload_n (pc := 5) dX1_passDays_5 rfl 0 rfl ?_
  refine sm_getI (pc := 6) dX1_passDays_6 fr_RX1_21 (by decide) rfl (fun v6 => ?_)
  refine sm_icmp_ge 65 (pc := 9) dX1_passDays_9 rfl ?_ ?_
  · refine sm_aload_n (pc := 65) dX1_passDays_65 rfl 0 rfl ?_
    refine sm_dup (pc := 66) dX1_passDays_66 rfl ?_
    refine sm_getI (pc := 67) dX1_passDays_67 fr_RX1_9 (by decide) rfl (fun v67 => ?_)
    refine sm_iload_n (pc := 70) dX1_passDays_70 rfl 1 rfl ?_
    refine sm_iadd (pc := 71) dX1_passDays_71 ?_
    refine sm_putI (pc := 72) dX1_passDays_72 fw_RX1_9 (by decide) rfl (fun S72 => ?_)
    refine sm_iload_n (pc := 75) dX1_passDays_75 rfl 2 rfl ?_
    exact sm_retI (pc := 76) dX1_passDays_76
  refine sm_iload_n (pc := 12) dX1_passDays_12 rfl 2 rfl ?_
  refine sm_aload_n (pc := 13) dX1_passDays_13 rfl 0 rfl ?_
  refine sm_getR (pc := 14) dX1_passDays_14 fr_RX1_26 (by decide) rfl (fun v14 => ?_)
  refine sm_iload_n (pc := 17) dX1_passDays_17 rfl 3 rfl ?_
  refine sm_aR (pc := 18) dX1_passDays_18 (by decide) (fun v18 => ?_)
  refine sm_aload_n (pc := 19) dX1_passDays_19 rfl 0 rfl ?_
  refine sm_getI (pc := 20) dX1_passDays_20 fr_RX1_9 (by decide) rfl (fun v20 => ?_)
  refine sm_iload_n (pc := 23) dX1_passDays_23 rfl 1 rfl ?_
  refine sm_iadd (pc := 24) dX1_passDays_24 ?_
  refine sm_callVI (pc := 25) [.int (v20 + x1)] (fun lq rq Sq hq => m_X4_endPeriods Z lq v18 (v20 + x1) S hq) dX1_passDays_25 mi_X4_endPeriods ml_RX1_87 ⟨Nat.le_of_ble_eq_true rfl, Nat.le_of_ble_eq_true rfl, rfl, rfl⟩ rfl (by decide) rfl (Nat.le_of_ble_eq_true rfl) rfl (fun r25 S25 => ?_)
  refine sm_iadd (pc := 28) dX1_passDays_28 ?_
  refine sm_bdI (fun v29 => ?_)
  refine sm_istore_n (pc := 29) (lv' := [(2, .int v29), (0, .ref x0), (1, .int x1), (3, .int x3)]) dX1_passDays_29 rfl (by decide) rfl ?_
  refine sm_aload_n (pc := 30) dX1_passDays_30 rfl 1 rfl ?_
  refine sm_getR (pc := 31) dX1_passDays_31 fr_RX1_26 (by decide) rfl (fun v31 => ?_)
  refine sm_iload_n (pc := 34) dX1_passDays_34 rfl 3 rfl ?_
  refine sm_aR (pc := 35) dX1_passDays_35 (by decide) (fun v35 => ?_)
  refine sm_aload_n (pc := 36) dX1_passDays_36 rfl 1 rfl ?_
  refine sm_getI (pc := 37) dX1_passDays_37 fr_RX1_9 (by decide) rfl (fun v37 => ?_)
  refine sm_iconst (pc := 40) (1 : Int32) dX1_passDays_40 (by decide) ?_
  refine sm_iadd (pc := 41) dX1_passDays_41 ?_
  refine sm_aload_n (pc := 42) dX1_passDays_42 rfl 1 rfl ?_
  refine sm_getI (pc := 43) dX1_passDays_43 fr_RX1_9 (by decide) rfl (fun v43 => ?_)
  refine sm_iload_n (pc := 46) dX1_passDays_46 rfl 2 rfl ?_
  refine sm_iadd (pc := 47) dX1_passDays_47 ?_
  refine sm_aload_n (pc := 48) dX1_passDays_48 rfl 1 rfl ?_
  refine sm_getI (pc := 49) dX1_passDays_49 fr_RX1_15 (by decide) rfl (fun v49 => ?_)
  refine sm_aload_n (pc := 52) dX1_passDays_52 rfl 1 rfl ?_
  refine sm_getI (pc := 53) dX1_passDays_53 fr_RX1_18 (by decide) rfl (fun v53 => ?_)
  refine sm_callVV (pc := 56) [.int (v37 + (1 : Int32)), .int (v43 + x1), .int v49, .int v53] (fun lq rq Sq hq => m_X4_chargeLate Z lq v35 (v37 + (1 : Int32)) (v43 + x1) v49 v53 S25 hq) dX1_passDays_56 mi_X4_chargeLate ml_RX1_90 ⟨Nat.le_of_ble_eq_true rfl, Nat.le_of_ble_eq_true rfl, rfl, rfl⟩ rfl (by decide) rfl (Nat.le_of_ble_eq_true rfl) rfl (fun _ S56 => ?_)
  refine sm_iinc (pc := 59) (x3 + 1) (lv' := [(3, .int (x3 + 1)), (2, .int v29), (0, .ref x0), (1, .int x1)]) dX1_passDays_59 3 rfl rfl (by decide) rfl ?_
  refine sm_goto 4 (pc := 62) dX1_passDays_62 rfl ?_
  refine sm_sub [2, 3, 1, 0] rfl ?_
  exact h4 x0 x1 v29 (x3 + 1) S56
set_option maxRecDepth 20000 in
set_option maxHeartbeats 4000000 in
theorem sL_X1_passDays_4 (Z : ZT)  (n : Nat) : ∀ (x0 : Nat) (x1 : Int32) (x2 : Int32) (x3 : Int32)  (S : St), Sim eI Z rm_X1_passDays RX1 cX1_passDays 4 (some .int) 4 [(0, .ref x0), (1, .int x1), (2, .int x2), (3, .int x3)] [] S (L_X1_passDays_4  n x0 x1 x2 x3 S) := by
  induction n with
  | zero => intros; exact sm_none
  | succ n ih => intro x0 x1 x2 x3 S; exact sB_X1_passDays_4 Z  (L_X1_passDays_4  n) ih x0 x1 x2 x3 S
set_option maxRecDepth 20000 in
set_option maxHeartbeats 4000000 in
theorem s_X1_passDays (Z : ZT) (c : Nat) (a1 : Int32) (S : St) : Sim eI Z rm_X1_passDays RX1 cX1_passDays 4 (some .int) 0 [(0, .ref c), (1, .int a1)] [] S (F_X1_passDays c a1 S) := by
  unfold F_X1_passDays
  refine sm_iconst (pc := 0) (0 : Int32) dX1_passDays_0 (by decide) ?_
  refine sm_istore_n (pc := 1) (lv' := [(2, .int (0 : Int32)), (0, .ref c), (1, .int a1)]) dX1_passDays_1 rfl (by decide) rfl ?_
  refine sm_iconst (pc := 2) (0 : Int32) dX1_passDays_2 (by decide) ?_
  refine sm_istore_n (pc := 3) (lv' := [(3, .int (0 : Int32)), (2, .int (0 : Int32)), (0, .ref c), (1, .int a1)]) dX1_passDays_3 rfl (by decide) rfl ?_
  refine sm_sub [2, 3, 1, 0] rfl ?_
  exact sL_X1_passDays_4 Z  6000 c a1 (0 : Int32) (0 : Int32) S
set_option maxRecDepth 20000 in
set_option maxHeartbeats 4000000 in
theorem m_X1_passDays (Z : ZT) (l : Launch) (c : Nat) (a1 : Int32) (S : St) {r : Int32} {S' : St} (h : F_X1_passDays c a1 S = some (r, S')) : MetX Z l yX1_passDays cX1_passDays 4 (some .int) rm_X1_passDays [.ref c, .int a1] S (eI r) S' := Sim.met (by decide +kernel) rfl (Nat.le_of_ble_eq_true rfl) (s_X1_passDays Z c a1 S) l h
set_option maxRecDepth 20000 in
set_option maxHeartbeats 4000000 in
theorem sJ_X4_billsInArrears_25 (Z : ZT) (rec4 : (Nat → Int32 → Int32 → St → Option (Int32 × St))) (h4 : ∀ (x0 : Nat) (x1 : Int32) (x2 : Int32)  (S : St), Sim eI Z rm_X4_billsInArrears RX4 cX4_billsInArrears 3 (some .int) 4 [(0, .ref x0), (1, .int x1), (2, .int x2)] [] S (rec4 x0 x1 x2 S)) (x0 : Nat) (x1 : Int32) (x2 : Int32)  (S : St) : Sim eI Z rm_X4_billsInArrears RX4 cX4_billsInArrears 3 (some .int) 25 [(0, .ref x0), (1, .int x1), (2, .int x2)] [] S (J_X4_billsInArrears_25 rec4 x0 x1 x2 S) := by
  unfold J_X4_billsInArrears_25
  refine sm_iinc (pc := 25) (x2 + 1) (lv' := [(2, .int (x2 + 1)), (0, .ref x0), (1, .int x1)]) dX4_billsInArrears_25 2 rfl rfl (by decide) rfl ?_
  refine sm_goto 4 (pc := 28) dX4_billsInArrears_28 rfl ?_
  refine sm_sub [1, 2, 0] rfl ?_
  exact h4 x0 x1 (x2 + 1) S
set_option maxRecDepth 20000 in
set_option maxHeartbeats 4000000 in
theorem sB_X4_billsInArrears_4 (Z : ZT) (rec4 : (Nat → Int32 → Int32 → St → Option (Int32 × St))) (h4 : ∀ (x0 : Nat) (x1 : Int32) (x2 : Int32)  (S : St), Sim eI Z rm_X4_billsInArrears RX4 cX4_billsInArrears 3 (some .int) 4 [(0, .ref x0), (1, .int x1), (2, .int x2)] [] S (rec4 x0 x1 x2 S)) (x0 : Nat) (x1 : Int32) (x2 : Int32)  (S : St) : Sim eI Z rm_X4_billsInArrears RX4 cX4_billsInArrears 3 (some .int) 4 [(0, .ref x0), (1, .int x1), (2, .int x2)] [] S (B_X4_billsInArrears_4 rec4 x0 x1 x2 S) := by
  unfold B_X4_billsInArrears_4
  refine sm_iload_n (pc := 4) dX4_billsInArrears_4 rfl 2 rfl ?_
  refine sm_aload_n (pc := 5) dX4_billsInArrears_5 rfl 0 rfl ?_
  refine sm_getI (pc := 6) dX4_billsInArrears_6 fr_RX4_70 (by decide) rfl (fun v6 => ?_)
  refine sm_icmp_gt 31 (pc := 9) dX4_billsInArrears_9 rfl ?_ ?_
  · refine sm_iload_n (pc := 31) dX4_billsInArrears_31 rfl 1 rfl ?_
    exact sm_retI (pc := 32) dX4_billsInArrears_32
  refine sm_aload_n (pc := 12) dX4_billsInArrears_12 rfl 0 rfl ?_
  refine sm_iload_n (pc := 13) dX4_billsInArrears_13 rfl 2 rfl ?_
  refine sm_callVL (pc := 14) [.int x2] (fun lq rq Sq hq => m_X4_asks Z lq x0 x2 S hq) dX4_billsInArrears_14 mi_X4_asks ml_RX4_134 ⟨Nat.le_of_ble_eq_true rfl, Nat.le_of_ble_eq_true rfl, rfl, rfl⟩ rfl (by decide) rfl (Nat.le_of_ble_eq_true rfl) rfl (fun r14 S14 => ?_)
  refine sm_lconst (pc := 17) (0 : Int64) dX4_billsInArrears_17 (by decide) ?_
  refine sm_lcmp_le 25 (pc := 18) dX4_billsInArrears_18 dX4_billsInArrears_19 rfl ?_ ?_
  · refine sm_sub [0, 1, 2] rfl ?_
    exact sJ_X4_billsInArrears_25 Z rec4 h4 x0 x1 x2 S14
  refine sm_iinc (pc := 22) (x1 + 1) (lv' := [(1, .int (x1 + 1)), (0, .ref x0), (2, .int x2)]) dX4_billsInArrears_22 1 rfl rfl (by decide) rfl ?_
  refine sm_sub [1, 0, 2] rfl ?_
  exact sJ_X4_billsInArrears_25 Z rec4 h4 x0 (x1 + 1) x2 S14
set_option maxRecDepth 20000 in
set_option maxHeartbeats 4000000 in
theorem sL_X4_billsInArrears_4 (Z : ZT)  (n : Nat) : ∀ (x0 : Nat) (x1 : Int32) (x2 : Int32)  (S : St), Sim eI Z rm_X4_billsInArrears RX4 cX4_billsInArrears 3 (some .int) 4 [(0, .ref x0), (1, .int x1), (2, .int x2)] [] S (L_X4_billsInArrears_4  n x0 x1 x2 S) := by
  induction n with
  | zero => intros; exact sm_none
  | succ n ih => intro x0 x1 x2 S; exact sB_X4_billsInArrears_4 Z  (L_X4_billsInArrears_4  n) ih x0 x1 x2 S
set_option maxRecDepth 20000 in
set_option maxHeartbeats 4000000 in
theorem s_X4_billsInArrears (Z : ZT) (c : Nat) (S : St) : Sim eI Z rm_X4_billsInArrears RX4 cX4_billsInArrears 3 (some .int) 0 [(0, .ref c)] [] S (F_X4_billsInArrears c S) := by
  unfold F_X4_billsInArrears
  refine sm_iconst (pc := 0) (0 : Int32) dX4_billsInArrears_0 (by decide) ?_
  refine sm_istore_n (pc := 1) (lv' := [(1, .int (0 : Int32)), (0, .ref c)]) dX4_billsInArrears_1 rfl (by decide) rfl ?_
  refine sm_iconst (pc := 2) (1 : Int32) dX4_billsInArrears_2 (by decide) ?_
  refine sm_istore_n (pc := 3) (lv' := [(2, .int (1 : Int32)), (1, .int (0 : Int32)), (0, .ref c)]) dX4_billsInArrears_3 rfl (by decide) rfl ?_
  refine sm_sub [2, 1, 0] rfl ?_
  exact sL_X4_billsInArrears_4 Z  6000 c (0 : Int32) (1 : Int32) S
set_option maxRecDepth 20000 in
set_option maxHeartbeats 4000000 in
theorem m_X4_billsInArrears (Z : ZT) (l : Launch) (c : Nat) (S : St) {r : Int32} {S' : St} (h : F_X4_billsInArrears c S = some (r, S')) : MetX Z l yX4_billsInArrears cX4_billsInArrears 3 (some .int) rm_X4_billsInArrears [.ref c] S (eI r) S' := Sim.met (by decide +kernel) rfl (Nat.le_of_ble_eq_true rfl) (s_X4_billsInArrears Z c S) l h
set_option maxRecDepth 20000 in
set_option maxHeartbeats 4000000 in
theorem sB_X1_billsInArrears_4 (Z : ZT) (rec4 : (Nat → Int32 → Int32 → St → Option (Int32 × St))) (h4 : ∀ (x0 : Nat) (x1 : Int32) (x2 : Int32)  (S : St), Sim eI Z rm_X1_billsInArrears RX1 cX1_billsInArrears 3 (some .int) 4 [(0, .ref x0), (1, .int x1), (2, .int x2)] [] S (rec4 x0 x1 x2 S)) (x0 : Nat) (x1 : Int32) (x2 : Int32)  (S : St) : Sim eI Z rm_X1_billsInArrears RX1 cX1_billsInArrears 3 (some .int) 4 [(0, .ref x0), (1, .int x1), (2, .int x2)] [] S (B_X1_billsInArrears_4 rec4 x0 x1 x2 S) := by
  unfold B_X1_billsInArrears_4
  refine sm_iload_n (pc := 4) dX1_billsInArrears_4 rfl 2 rfl ?_
  refine sm_aload_n (pc := 5) dX1_billsInArrears_5 rfl 0 rfl ?_
  refine sm_getI (pc := 6) dX1_billsInArrears_6 fr_RX1_21 (by decide) rfl (fun v6 => ?_)
  refine sm_icmp_ge 30 (pc := 9) dX1_billsInArrears_9 rfl ?_ ?_
  · refine sm_iload_n (pc := 30) dX1_billsInArrears_30 rfl 1 rfl ?_
    exact sm_retI (pc := 31) dX1_billsInArrears_31
  refine sm_iload_n (pc := 12) dX1_billsInArrears_12 rfl 1 rfl ?_
  refine sm_aload_n (pc := 13) dX1_billsInArrears_13 rfl 0 rfl ?_
  refine sm_getR (pc := 14) dX1_billsInArrears_14 fr_RX1_26 (by decide) rfl (fun v14 => ?_)
  refine sm_iload_n (pc := 17) dX1_billsInArrears_17 rfl 2 rfl ?_
  refine sm_aR (pc := 18) dX1_billsInArrears_18 (by decide) (fun v18 => ?_)
  refine sm_callVI (pc := 19) [] (fun lq rq Sq hq => m_X4_billsInArrears Z lq v18 S hq) dX1_billsInArrears_19 mi_X4_billsInArrears ml_RX1_94 ⟨Nat.le_of_ble_eq_true rfl, Nat.le_of_ble_eq_true rfl, rfl, rfl⟩ rfl (by decide) rfl (Nat.le_of_ble_eq_true rfl) rfl (fun r19 S19 => ?_)
  refine sm_iadd (pc := 22) dX1_billsInArrears_22 ?_
  refine sm_bdI (fun v23 => ?_)
  refine sm_istore_n (pc := 23) (lv' := [(1, .int v23), (0, .ref x0), (2, .int x2)]) dX1_billsInArrears_23 rfl (by decide) rfl ?_
  refine sm_iinc (pc := 24) (x2 + 1) (lv' := [(2, .int (x2 + 1)), (1, .int v23), (0, .ref x0)]) dX1_billsInArrears_24 2 rfl rfl (by decide) rfl ?_
  refine sm_goto 4 (pc := 27) dX1_billsInArrears_27 rfl ?_
  refine sm_sub [2, 1, 0] rfl ?_
  exact h4 x0 v23 (x2 + 1) S19
set_option maxRecDepth 20000 in
set_option maxHeartbeats 4000000 in
theorem sL_X1_billsInArrears_4 (Z : ZT)  (n : Nat) : ∀ (x0 : Nat) (x1 : Int32) (x2 : Int32)  (S : St), Sim eI Z rm_X1_billsInArrears RX1 cX1_billsInArrears 3 (some .int) 4 [(0, .ref x0), (1, .int x1), (2, .int x2)] [] S (L_X1_billsInArrears_4  n x0 x1 x2 S) := by
  induction n with
  | zero => intros; exact sm_none
  | succ n ih => intro x0 x1 x2 S; exact sB_X1_billsInArrears_4 Z  (L_X1_billsInArrears_4  n) ih x0 x1 x2 S
set_option maxRecDepth 20000 in
set_option maxHeartbeats 4000000 in
theorem s_X1_billsInArrears (Z : ZT) (c : Nat) (S : St) : Sim eI Z rm_X1_billsInArrears RX1 cX1_billsInArrears 3 (some .int) 0 [(0, .ref c)] [] S (F_X1_billsInArrears c S) := by
  unfold F_X1_billsInArrears
  refine sm_iconst (pc := 0) (0 : Int32) dX1_billsInArrears_0 (by decide) ?_
  refine sm_istore_n (pc := 1) (lv' := [(1, .int (0 : Int32)), (0, .ref c)]) dX1_billsInArrears_1 rfl (by decide) rfl ?_
  refine sm_iconst (pc := 2) (0 : Int32) dX1_billsInArrears_2 (by decide) ?_
  refine sm_istore_n (pc := 3) (lv' := [(2, .int (0 : Int32)), (1, .int (0 : Int32)), (0, .ref c)]) dX1_billsInArrears_3 rfl (by decide) rfl ?_
  refine sm_sub [2, 1, 0] rfl ?_
  exact sL_X1_billsInArrears_4 Z  6000 c (0 : Int32) (0 : Int32) S
set_option maxRecDepth 20000 in
set_option maxHeartbeats 4000000 in
theorem m_X1_billsInArrears (Z : ZT) (l : Launch) (c : Nat) (S : St) {r : Int32} {S' : St} (h : F_X1_billsInArrears c S = some (r, S')) : MetX Z l yX1_billsInArrears cX1_billsInArrears 3 (some .int) rm_X1_billsInArrears [.ref c] S (eI r) S' := Sim.met (by decide +kernel) rfl (Nat.le_of_ble_eq_true rfl) (s_X1_billsInArrears Z c S) l h
set_option maxRecDepth 20000 in
set_option maxHeartbeats 4000000 in
theorem sB_X4_owed_4 (Z : ZT) (rec4 : (Nat → Int64 → Int32 → St → Option (Int64 × St))) (h4 : ∀ (x0 : Nat) (x1 : Int64) (x3 : Int32)  (S : St), Sim eL Z rm_X4_owed RX4 cX4_owed 4 (some .long) 4 [(0, .ref x0), (1, .long x1), (3, .int x3)] [] S (rec4 x0 x1 x3 S)) (x0 : Nat) (x1 : Int64) (x3 : Int32)  (S : St) : Sim eL Z rm_X4_owed RX4 cX4_owed 4 (some .long) 4 [(0, .ref x0), (1, .long x1), (3, .int x3)] [] S (B_X4_owed_4 rec4 x0 x1 x3 S) := by
  unfold B_X4_owed_4
  refine sm_iload_n (pc := 4) dX4_owed_4 rfl 2 rfl ?_
  refine sm_aload_n (pc := 5) dX4_owed_5 rfl 0 rfl ?_
  refine sm_getI (pc := 6) dX4_owed_6 fr_RX4_70 (by decide) rfl (fun v6 => ?_)
  refine sm_icmp_gt 26 (pc := 9) dX4_owed_9 rfl ?_ ?_
  · refine sm_lload_n (pc := 26) dX4_owed_26 rfl 1 rfl ?_
    exact sm_retL (pc := 27) dX4_owed_27
  refine sm_lload_n (pc := 12) dX4_owed_12 rfl 1 rfl ?_
  refine sm_aload_n (pc := 13) dX4_owed_13 rfl 0 rfl ?_
  refine sm_iload_n (pc := 14) dX4_owed_14 rfl 2 rfl ?_
  refine sm_callVL (pc := 15) [.int x3] (fun lq rq Sq hq => m_X4_asks Z lq x0 x3 S hq) dX4_owed_15 mi_X4_asks ml_RX4_134 ⟨Nat.le_of_ble_eq_true rfl, Nat.le_of_ble_eq_true rfl, rfl, rfl⟩ rfl (by decide) rfl (Nat.le_of_ble_eq_true rfl) rfl (fun r15 S15 => ?_)
  refine sm_ladd (pc := 18) dX4_owed_18 ?_
  refine sm_bdJ (fun v19 => ?_)
  refine sm_lstore_n (pc := 19) (lv' := [(1, .long v19), (0, .ref x0), (3, .int x3)]) dX4_owed_19 rfl (by decide) rfl ?_
  refine sm_iinc (pc := 20) (x3 + 1) (lv' := [(3, .int (x3 + 1)), (1, .long v19), (0, .ref x0)]) dX4_owed_20 2 rfl rfl (by decide) rfl ?_
  refine sm_goto 4 (pc := 23) dX4_owed_23 rfl ?_
  refine sm_sub [2, 1, 0] rfl ?_
  exact h4 x0 v19 (x3 + 1) S15
set_option maxRecDepth 20000 in
set_option maxHeartbeats 4000000 in
theorem sL_X4_owed_4 (Z : ZT)  (n : Nat) : ∀ (x0 : Nat) (x1 : Int64) (x3 : Int32)  (S : St), Sim eL Z rm_X4_owed RX4 cX4_owed 4 (some .long) 4 [(0, .ref x0), (1, .long x1), (3, .int x3)] [] S (L_X4_owed_4  n x0 x1 x3 S) := by
  induction n with
  | zero => intros; exact sm_none
  | succ n ih => intro x0 x1 x3 S; exact sB_X4_owed_4 Z  (L_X4_owed_4  n) ih x0 x1 x3 S
set_option maxRecDepth 20000 in
set_option maxHeartbeats 4000000 in
theorem s_X4_owed (Z : ZT) (c : Nat) (S : St) : Sim eL Z rm_X4_owed RX4 cX4_owed 4 (some .long) 0 [(0, .ref c)] [] S (F_X4_owed c S) := by
  unfold F_X4_owed
  refine sm_lconst (pc := 0) (0 : Int64) dX4_owed_0 (by decide) ?_
  refine sm_lstore_n (pc := 1) (lv' := [(1, .long (0 : Int64)), (0, .ref c)]) dX4_owed_1 rfl (by decide) rfl ?_
  refine sm_iconst (pc := 2) (1 : Int32) dX4_owed_2 (by decide) ?_
  refine sm_istore_n (pc := 3) (lv' := [(3, .int (1 : Int32)), (1, .long (0 : Int64)), (0, .ref c)]) dX4_owed_3 rfl (by decide) rfl ?_
  refine sm_sub [2, 1, 0] rfl ?_
  exact sL_X4_owed_4 Z  6000 c (0 : Int64) (1 : Int32) S
set_option maxRecDepth 20000 in
set_option maxHeartbeats 4000000 in
theorem m_X4_owed (Z : ZT) (l : Launch) (c : Nat) (S : St) {r : Int64} {S' : St} (h : F_X4_owed c S = some (r, S')) : MetX Z l yX4_owed cX4_owed 4 (some .long) rm_X4_owed [.ref c] S (eL r) S' := Sim.met (by decide +kernel) rfl (Nat.le_of_ble_eq_true rfl) (s_X4_owed Z c S) l h
set_option maxRecDepth 20000 in
set_option maxHeartbeats 4000000 in
theorem sJ_X4_isSettled_23 (Z : ZT)   (t0 : Int32) (S : St) : Sim eI Z rm_X4_isSettled RX4 cX4_isSettled 1 (some .boolean) 23 [] [.int t0] S (J_X4_isSettled_23  t0 S) := by
  unfold J_X4_isSettled_23
  exact sm_retZ (pc := 23) dX4_isSettled_23
set_option maxRecDepth 20000 in
set_option maxHeartbeats 4000000 in
theorem sJ_X4_isSettled_22 (Z : ZT)    (S : St) : Sim eI Z rm_X4_isSettled RX4 cX4_isSettled 1 (some .boolean) 22 [] [] S (J_X4_isSettled_22  S) := by
  unfold J_X4_isSettled_22
  refine sm_iconst (pc := 22) (0 : Int32) dX4_isSettled_22 (by decide) ?_
  refine sm_sub [] rfl ?_
  exact sJ_X4_isSettled_23 Z  (0 : Int32) S
set_option maxRecDepth 20000 in
set_option maxHeartbeats 4000000 in
theorem s_X4_isSettled (Z : ZT) (c : Nat) (S : St) : Sim eI Z rm_X4_isSettled RX4 cX4_isSettled 1 (some .boolean) 0 [(0, .ref c)] [] S (F_X4_isSettled c S) := by
  unfold F_X4_isSettled
  refine sm_aload_n (pc := 0) dX4_isSettled_0 rfl 0 rfl ?_
  refine sm_getL (pc := 1) dX4_isSettled_1 fr_RX4_36 (by decide) rfl (fun v1 => ?_)
  refine sm_lconst (pc := 4) (0 : Int64) dX4_isSettled_4 (by decide) ?_
  refine sm_lcmp_ne 22 (pc := 5) dX4_isSettled_5 dX4_isSettled_6 rfl ?_ ?_
  · refine sm_sub [] rfl ?_
    exact sJ_X4_isSettled_22 Z  S
  refine sm_aload_n (pc := 9) dX4_isSettled_9 rfl 0 rfl ?_
  refine sm_callVL (pc := 10) [] (fun lq rq Sq hq => m_X4_owed Z lq c S hq) dX4_isSettled_10 mi_X4_owed ml_RX4_144 ⟨Nat.le_of_ble_eq_true rfl, Nat.le_of_ble_eq_true rfl, rfl, rfl⟩ rfl (by decide) rfl (Nat.le_of_ble_eq_true rfl) rfl (fun r10 S10 => ?_)
  refine sm_lconst (pc := 13) (0 : Int64) dX4_isSettled_13 (by decide) ?_
  refine sm_lcmp_ne 22 (pc := 14) dX4_isSettled_14 dX4_isSettled_15 rfl ?_ ?_
  · refine sm_sub [] rfl ?_
    exact sJ_X4_isSettled_22 Z  S10
  refine sm_iconst (pc := 18) (1 : Int32) dX4_isSettled_18 (by decide) ?_
  refine sm_goto 23 (pc := 19) dX4_isSettled_19 rfl ?_
  refine sm_sub [] rfl ?_
  exact sJ_X4_isSettled_23 Z  (1 : Int32) S10
set_option maxRecDepth 20000 in
set_option maxHeartbeats 4000000 in
theorem m_X4_isSettled (Z : ZT) (l : Launch) (c : Nat) (S : St) {r : Int32} {S' : St} (h : F_X4_isSettled c S = some (r, S')) : MetX Z l yX4_isSettled cX4_isSettled 1 (some .boolean) rm_X4_isSettled [.ref c] S (eI r) S' := Sim.met (by decide +kernel) rfl (Nat.le_of_ble_eq_true rfl) (s_X4_isSettled Z c S) l h
set_option maxRecDepth 20000 in
set_option maxHeartbeats 4000000 in
theorem sJ_X1_settledLoans_27 (Z : ZT) (rec4 : (Nat → Int32 → Int32 → St → Option (Int32 × St))) (h4 : ∀ (x0 : Nat) (x1 : Int32) (x2 : Int32)  (S : St), Sim eI Z rm_X1_settledLoans RX1 cX1_settledLoans 3 (some .int) 4 [(0, .ref x0), (1, .int x1), (2, .int x2)] [] S (rec4 x0 x1 x2 S)) (x0 : Nat) (x1 : Int32) (x2 : Int32)  (S : St) : Sim eI Z rm_X1_settledLoans RX1 cX1_settledLoans 3 (some .int) 27 [(0, .ref x0), (1, .int x1), (2, .int x2)] [] S (J_X1_settledLoans_27 rec4 x0 x1 x2 S) := by
  unfold J_X1_settledLoans_27
  refine sm_iinc (pc := 27) (x2 + 1) (lv' := [(2, .int (x2 + 1)), (0, .ref x0), (1, .int x1)]) dX1_settledLoans_27 2 rfl rfl (by decide) rfl ?_
  refine sm_goto 4 (pc := 30) dX1_settledLoans_30 rfl ?_
  refine sm_sub [1, 2, 0] rfl ?_
  exact h4 x0 x1 (x2 + 1) S
set_option maxRecDepth 20000 in
set_option maxHeartbeats 4000000 in
theorem sB_X1_settledLoans_4 (Z : ZT) (rec4 : (Nat → Int32 → Int32 → St → Option (Int32 × St))) (h4 : ∀ (x0 : Nat) (x1 : Int32) (x2 : Int32)  (S : St), Sim eI Z rm_X1_settledLoans RX1 cX1_settledLoans 3 (some .int) 4 [(0, .ref x0), (1, .int x1), (2, .int x2)] [] S (rec4 x0 x1 x2 S)) (x0 : Nat) (x1 : Int32) (x2 : Int32)  (S : St) : Sim eI Z rm_X1_settledLoans RX1 cX1_settledLoans 3 (some .int) 4 [(0, .ref x0), (1, .int x1), (2, .int x2)] [] S (B_X1_settledLoans_4 rec4 x0 x1 x2 S) := by
  unfold B_X1_settledLoans_4
  refine sm_iload_n (pc := 4) dX1_settledLoans_4 rfl 2 rfl ?_
  refine sm_aload_n (pc := 5) dX1_settledLoans_5 rfl 0 rfl ?_
  refine sm_getI (pc := 6) dX1_settledLoans_6 fr_RX1_21 (by decide) rfl (fun v6 => ?_)
  refine sm_icmp_ge 33 (pc := 9) dX1_settledLoans_9 rfl ?_ ?_
  · refine sm_iload_n (pc := 33) dX1_settledLoans_33 rfl 1 rfl ?_
    exact sm_retI (pc := 34) dX1_settledLoans_34
  refine sm_aload_n (pc := 12) dX1_settledLoans_12 rfl 0 rfl ?_
  refine sm_getR (pc := 13) dX1_settledLoans_13 fr_RX1_26 (by decide) rfl (fun v13 => ?_)
  refine sm_iload_n (pc := 16) dX1_settledLoans_16 rfl 2 rfl ?_
  refine sm_aR (pc := 17) dX1_settledLoans_17 (by decide) (fun v17 => ?_)
  refine sm_callVI (pc := 18) [] (fun lq rq Sq hq => m_X4_isSettled Z lq v17 S hq) dX1_settledLoans_18 mi_X4_isSettled ml_RX1_98 ⟨Nat.le_of_ble_eq_true rfl, Nat.le_of_ble_eq_true rfl, rfl, rfl⟩ rfl (by decide) rfl (Nat.le_of_ble_eq_true rfl) rfl (fun r18 S18 => ?_)
  refine sm_if_eq 27 (pc := 21) dX1_settledLoans_21 rfl ?_ ?_
  · refine sm_sub [0, 1, 2] rfl ?_
    exact sJ_X1_settledLoans_27 Z rec4 h4 x0 x1 x2 S18
  refine sm_iinc (pc := 24) (x1 + 1) (lv' := [(1, .int (x1 + 1)), (0, .ref x0), (2, .int x2)]) dX1_settledLoans_24 1 rfl rfl (by decide) rfl ?_
  refine sm_sub [1, 0, 2] rfl ?_
  exact sJ_X1_settledLoans_27 Z rec4 h4 x0 (x1 + 1) x2 S18
set_option maxRecDepth 20000 in
set_option maxHeartbeats 4000000 in
theorem sL_X1_settledLoans_4 (Z : ZT)  (n : Nat) : ∀ (x0 : Nat) (x1 : Int32) (x2 : Int32)  (S : St), Sim eI Z rm_X1_settledLoans RX1 cX1_settledLoans 3 (some .int) 4 [(0, .ref x0), (1, .int x1), (2, .int x2)] [] S (L_X1_settledLoans_4  n x0 x1 x2 S) := by
  induction n with
  | zero => intros; exact sm_none
  | succ n ih => intro x0 x1 x2 S; exact sB_X1_settledLoans_4 Z  (L_X1_settledLoans_4  n) ih x0 x1 x2 S
set_option maxRecDepth 20000 in
set_option maxHeartbeats 4000000 in
theorem s_X1_settledLoans (Z : ZT) (c : Nat) (S : St) : Sim eI Z rm_X1_settledLoans RX1 cX1_settledLoans 3 (some .int) 0 [(0, .ref c)] [] S (F_X1_settledLoans c S) := by
  unfold F_X1_settledLoans
  refine sm_iconst (pc := 0) (0 : Int32) dX1_settledLoans_0 (by decide) ?_
  refine sm_istore_n (pc := 1) (lv' := [(1, .int (0 : Int32)), (0, .ref c)]) dX1_settledLoans_1 rfl (by decide) rfl ?_
  refine sm_iconst (pc := 2) (0 : Int32) dX1_settledLoans_2 (by decide) ?_
  refine sm_istore_n (pc := 3) (lv' := [(2, .int (0 : Int32)), (1, .int (0 : Int32)), (0, .ref c)]) dX1_settledLoans_3 rfl (by decide) rfl ?_
  refine sm_sub [2, 1, 0] rfl ?_
  exact sL_X1_settledLoans_4 Z  6000 c (0 : Int32) (0 : Int32) S
set_option maxRecDepth 20000 in
set_option maxHeartbeats 4000000 in
theorem m_X1_settledLoans (Z : ZT) (l : Launch) (c : Nat) (S : St) {r : Int32} {S' : St} (h : F_X1_settledLoans c S = some (r, S')) : MetX Z l yX1_settledLoans cX1_settledLoans 3 (some .int) rm_X1_settledLoans [.ref c] S (eI r) S' := Sim.met (by decide +kernel) rfl (Nat.le_of_ble_eq_true rfl) (s_X1_settledLoans Z c S) l h
set_option maxRecDepth 20000 in
set_option maxHeartbeats 4000000 in
theorem s_X3_takeLoan (Z : ZT) (c : Nat) (a1 : Int32) (S : St) : Sim eV Z rm_X3_takeLoan RX3 cX3_takeLoan 2 none 0 [(0, .ref c), (1, .int a1)] [] S (F_X3_takeLoan c a1 S) := by
  unfold F_X3_takeLoan
  refine sm_aload_n (pc := 0) dX3_takeLoan_0 rfl 0 rfl ?_
  refine sm_iconst (pc := 1) (1 : Int32) dX3_takeLoan_1 (by decide) ?_
  refine sm_putI (pc := 2) dX3_takeLoan_2 fw_RX3_11 (by decide) rfl (fun S2 => ?_)
  refine sm_aload_n (pc := 5) dX3_takeLoan_5 rfl 0 rfl ?_
  refine sm_iload_n (pc := 6) dX3_takeLoan_6 rfl 1 rfl ?_
  refine sm_putI (pc := 7) dX3_takeLoan_7 fw_RX3_15 (by decide) rfl (fun S7 => ?_)
  exact sm_retV (pc := 10) dX3_takeLoan_10
set_option maxRecDepth 20000 in
set_option maxHeartbeats 4000000 in
theorem m_X3_takeLoan (Z : ZT) (l : Launch) (c : Nat) (a1 : Int32) (S : St) {r : Unit} {S' : St} (h : F_X3_takeLoan c a1 S = some (r, S')) : MetX Z l yX3_takeLoan cX3_takeLoan 2 none rm_X3_takeLoan [.ref c, .int a1] S (eV r) S' := Sim.met (by decide +kernel) rfl (Nat.le_of_ble_eq_true rfl) (s_X3_takeLoan Z c a1 S) l h
set_option maxRecDepth 20000 in
set_option maxHeartbeats 4000000 in
theorem s_X3_takeBill (Z : ZT) (c : Nat) (a1 : Int32) (a2 : Int64) (S : St) : Sim eV Z rm_X3_takeBill RX3 cX3_takeBill 4 none 0 [(0, .ref c), (1, .int a1), (2, .long a2)] [] S (F_X3_takeBill c a1 a2 S) := by
  unfold F_X3_takeBill
  refine sm_aload_n (pc := 0) dX3_takeBill_0 rfl 0 rfl ?_
  refine sm_iconst (pc := 1) (2 : Int32) dX3_takeBill_1 (by decide) ?_
  refine sm_putI (pc := 2) dX3_takeBill_2 fw_RX3_11 (by decide) rfl (fun S2 => ?_)
  refine sm_aload_n (pc := 5) dX3_takeBill_5 rfl 0 rfl ?_
  refine sm_iload_n (pc := 6) dX3_takeBill_6 rfl 1 rfl ?_
  refine sm_putI (pc := 7) dX3_takeBill_7 fw_RX3_15 (by decide) rfl (fun S7 => ?_)
  refine sm_aload_n (pc := 10) dX3_takeBill_10 rfl 0 rfl ?_
  refine sm_lload_n (pc := 11) dX3_takeBill_11 rfl 2 rfl ?_
  refine sm_putL (pc := 12) dX3_takeBill_12 fw_RX3_21 (by decide) rfl (fun S12 => ?_)
  exact sm_retV (pc := 15) dX3_takeBill_15
set_option maxRecDepth 20000 in
set_option maxHeartbeats 4000000 in
theorem m_X3_takeBill (Z : ZT) (l : Launch) (c : Nat) (a1 : Int32) (a2 : Int64) (S : St) {r : Unit} {S' : St} (h : F_X3_takeBill c a1 a2 S = some (r, S')) : MetX Z l yX3_takeBill cX3_takeBill 4 none rm_X3_takeBill [.ref c, .int a1, .long a2] S (eV r) S' := Sim.met (by decide +kernel) rfl (Nat.le_of_ble_eq_true rfl) (s_X3_takeBill Z c a1 a2 S) l h
set_option maxRecDepth 20000 in
set_option maxHeartbeats 4000000 in
theorem sB_J7_fill_d0a16_6 (Z : ZT) (rec6 : (Nat → Int64 → Int32 → Int32 → St → Option (Unit × St))) (h6 : ∀ (x0 : Nat) (x1 : Int64) (x3 : Int32) (x4 : Int32)  (S : St), Sim eV Z rm_J7_fill_d0a16 RJ7 cJ7_fill_d0a16 5 none 6 [(0, .ref x0), (1, .long x1), (3, .int x3), (4, .int x4)] [] S (rec6 x0 x1 x3 x4 S)) (x0 : Nat) (x1 : Int64) (x3 : Int32) (x4 : Int32)  (S : St) : Sim eV Z rm_J7_fill_d0a16 RJ7 cJ7_fill_d0a16 5 none 6 [(0, .ref x0), (1, .long x1), (3, .int x3), (4, .int x4)] [] S (B_J7_fill_d0a16_6 rec6 x0 x1 x3 x4 S) := by
  unfold B_J7_fill_d0a16_6
  refine sm_iload_n (pc := 6) dJ7_fill_d0a16_6 rfl 2 rfl ?_
  refine sm_iload (pc := 7) dJ7_fill_d0a16_7 3 rfl ?_
  refine sm_icmp_ge 22 (pc := 9) dJ7_fill_d0a16_9 rfl ?_ ?_
  · exact sm_retV (pc := 22) dJ7_fill_d0a16_22
  refine sm_aload_n (pc := 12) dJ7_fill_d0a16_12 rfl 0 rfl ?_
  refine sm_iload_n (pc := 13) dJ7_fill_d0a16_13 rfl 2 rfl ?_
  refine sm_lload_n (pc := 14) dJ7_fill_d0a16_14 rfl 1 rfl ?_
  refine sm_sJ (pc := 15) dJ7_fill_d0a16_15 (fun S15 => ?_)
  refine sm_iinc (pc := 16) (x3 + 1) (lv' := [(3, .int (x3 + 1)), (0, .ref x0), (1, .long x1), (4, .int x4)]) dJ7_fill_d0a16_16 2 rfl rfl (by decide) rfl ?_
  refine sm_goto 6 (pc := 19) dJ7_fill_d0a16_19 rfl ?_
  refine sm_sub [1, 2, 0, 3] rfl ?_
  exact h6 x0 x1 (x3 + 1) x4 S15
set_option maxRecDepth 20000 in
set_option maxHeartbeats 4000000 in
theorem sL_J7_fill_d0a16_6 (Z : ZT)  (n : Nat) : ∀ (x0 : Nat) (x1 : Int64) (x3 : Int32) (x4 : Int32)  (S : St), Sim eV Z rm_J7_fill_d0a16 RJ7 cJ7_fill_d0a16 5 none 6 [(0, .ref x0), (1, .long x1), (3, .int x3), (4, .int x4)] [] S (L_J7_fill_d0a16_6  n x0 x1 x3 x4 S) := by
  induction n with
  | zero => intros; exact sm_none
  | succ n ih => intro x0 x1 x3 x4 S; exact sB_J7_fill_d0a16_6 Z  (L_J7_fill_d0a16_6  n) ih x0 x1 x3 x4 S
set_option maxRecDepth 20000 in
set_option maxHeartbeats 4000000 in
theorem s_J7_fill_d0a16 (Z : ZT) (a1 : Nat) (a2 : Int64) (S : St) : Sim eV Z rm_J7_fill_d0a16 RJ7 cJ7_fill_d0a16 5 none 0 [(0, .ref a1), (1, .long a2)] [] S (F_J7_fill_d0a16 a1 a2 S) := by
  unfold F_J7_fill_d0a16
  refine sm_iconst (pc := 0) (0 : Int32) dJ7_fill_d0a16_0 (by decide) ?_
  refine sm_istore_n (pc := 1) (lv' := [(3, .int (0 : Int32)), (0, .ref a1), (1, .long a2)]) dJ7_fill_d0a16_1 rfl (by decide) rfl ?_
  refine sm_aload_n (pc := 2) dJ7_fill_d0a16_2 rfl 1 rfl ?_
  refine sm_alen (pc := 3) dJ7_fill_d0a16_3 (fun v3 => ?_)
  refine sm_istore (pc := 4) (lv' := [(4, .int v3), (3, .int (0 : Int32)), (0, .ref a1), (1, .long a2)]) dJ7_fill_d0a16_4 (by decide) rfl ?_
  refine sm_sub [2, 3, 1, 0] rfl ?_
  exact sL_J7_fill_d0a16_6 Z  6000 a1 a2 (0 : Int32) v3 S
set_option maxRecDepth 20000 in
set_option maxHeartbeats 4000000 in
theorem m_J7_fill_d0a16 (Z : ZT) (l : Launch) (a1 : Nat) (a2 : Int64) (S : St) {r : Unit} {S' : St} (h : F_J7_fill_d0a16 a1 a2 S = some (r, S')) : MetX Z l yJ7_fill_d0a16 cJ7_fill_d0a16 5 none rm_J7_fill_d0a16 [.ref a1, .long a2] S (eV r) S' := Sim.met (by decide +kernel) rfl (Nat.le_of_ble_eq_true rfl) (s_J7_fill_d0a16 Z a1 a2 S) l h
set_option maxRecDepth 20000 in
set_option maxHeartbeats 4000000 in
theorem s_X3_takeRow (Z : ZT) (c : Nat) (a1 : Int32) (S : St) : Sim eV Z rm_X3_takeRow RX3 cX3_takeRow 2 none 0 [(0, .ref c), (1, .int a1)] [] S (F_X3_takeRow c a1 S) := by
  unfold F_X3_takeRow
  refine sm_aload_n (pc := 0) dX3_takeRow_0 rfl 0 rfl ?_
  refine sm_iconst (pc := 1) (3 : Int32) dX3_takeRow_1 (by decide) ?_
  refine sm_putI (pc := 2) dX3_takeRow_2 fw_RX3_11 (by decide) rfl (fun S2 => ?_)
  refine sm_aload_n (pc := 5) dX3_takeRow_5 rfl 0 rfl ?_
  refine sm_iload_n (pc := 6) dX3_takeRow_6 rfl 1 rfl ?_
  refine sm_putI (pc := 7) dX3_takeRow_7 fw_RX3_18 (by decide) rfl (fun S7 => ?_)
  refine sm_aload_n (pc := 10) dX3_takeRow_10 rfl 0 rfl ?_
  refine sm_getR (pc := 11) dX3_takeRow_11 fr_RX3_25 (by decide) rfl (fun v11 => ?_)
  refine sm_lconst (pc := 14) (0 : Int64) dX3_takeRow_14 (by decide) ?_
  refine sm_callSV (pc := 15) [.ref v11, .long (0 : Int64)] (fun lq rq Sq hq => m_J7_fill_d0a16 Z lq v11 (0 : Int64) S7 hq) dX3_takeRow_15 mi_J7_fill_d0a16 ml_RX3_29 ⟨Nat.le_of_ble_eq_true rfl, Nat.le_of_ble_eq_true rfl, rfl, rfl⟩ rfl (Nat.le_of_ble_eq_true rfl) rfl (fun _ S15 => ?_)
  exact sm_retV (pc := 18) dX3_takeRow_18
set_option maxRecDepth 20000 in
set_option maxHeartbeats 4000000 in
theorem m_X3_takeRow (Z : ZT) (l : Launch) (c : Nat) (a1 : Int32) (S : St) {r : Unit} {S' : St} (h : F_X3_takeRow c a1 S = some (r, S')) : MetX Z l yX3_takeRow cX3_takeRow 2 none rm_X3_takeRow [.ref c, .int a1] S (eV r) S' := Sim.met (by decide +kernel) rfl (Nat.le_of_ble_eq_true rfl) (s_X3_takeRow Z c a1 S) l h
set_option maxRecDepth 20000 in
set_option maxHeartbeats 4000000 in
theorem s_X4_payBill (Z : ZT) (c : Nat) (a1 : Int32) (a2 : Int64) (S : St) : Sim eL Z rm_X4_payBill RX4 cX4_payBill 10 (some .long) 0 [(0, .ref c), (1, .int a1), (2, .long a2)] [] S (F_X4_payBill c a1 a2 S) := by
  unfold F_X4_payBill
  refine sm_lload_n (pc := 0) dX4_payBill_0 rfl 2 rfl ?_
  refine sm_aload_n (pc := 1) dX4_payBill_1 rfl 0 rfl ?_
  refine sm_getR (pc := 2) dX4_payBill_2 fr_RX4_19 (by decide) rfl (fun v2 => ?_)
  refine sm_iload_n (pc := 5) dX4_payBill_5 rfl 1 rfl ?_
  refine sm_aJ (pc := 6) dX4_payBill_6 (fun v6 => ?_)
  refine sm_callSL (pc := 7) [.long a2, .long v6] (fun lq rq Sq hq => m_J9_min_f86c9 Z lq a2 v6 S hq) dX4_payBill_7 mi_J9_min_f86c9 ml_RX4_116 ⟨Nat.le_of_ble_eq_true rfl, Nat.le_of_ble_eq_true rfl, rfl, rfl⟩ rfl (Nat.le_of_ble_eq_true rfl) rfl (fun r7 S7 => ?_)
  refine sm_lstore (pc := 10) (lv' := [(4, .long r7), (0, .ref c), (1, .int a1), (2, .long a2)]) dX4_payBill_10 (by decide) rfl ?_
  refine sm_lload_n (pc := 12) dX4_payBill_12 rfl 3 rfl ?_
  refine sm_lload (pc := 13) dX4_payBill_13 0 rfl ?_
  refine sm_lsub (pc := 15) dX4_payBill_15 ?_
  refine sm_aload_n (pc := 16) dX4_payBill_16 rfl 1 rfl ?_
  refine sm_getR (pc := 17) dX4_payBill_17 fr_RX4_22 (by decide) rfl (fun v17 => ?_)
  refine sm_iload_n (pc := 20) dX4_payBill_20 rfl 2 rfl ?_
  refine sm_aJ (pc := 21) dX4_payBill_21 (fun v21 => ?_)
  refine sm_callSL (pc := 22) [.long (a2 - r7), .long v21] (fun lq rq Sq hq => m_J9_min_f86c9 Z lq (a2 - r7) v21 S7 hq) dX4_payBill_22 mi_J9_min_f86c9 ml_RX4_116 ⟨Nat.le_of_ble_eq_true rfl, Nat.le_of_ble_eq_true rfl, rfl, rfl⟩ rfl (Nat.le_of_ble_eq_true rfl) rfl (fun r22 S22 => ?_)
  refine sm_lstore (pc := 25) (lv' := [(6, .long r22), (4, .long r7), (0, .ref c), (1, .int a1), (2, .long a2)]) dX4_payBill_25 (by decide) rfl ?_
  refine sm_lload_n (pc := 27) dX4_payBill_27 rfl 4 rfl ?_
  refine sm_lload (pc := 28) dX4_payBill_28 1 rfl ?_
  refine sm_lsub (pc := 30) dX4_payBill_30 ?_
  refine sm_lload (pc := 31) dX4_payBill_31 0 rfl ?_
  refine sm_lsub (pc := 33) dX4_payBill_33 ?_
  refine sm_aload_n (pc := 34) dX4_payBill_34 rfl 2 rfl ?_
  refine sm_getR (pc := 35) dX4_payBill_35 fr_RX4_25 (by decide) rfl (fun v35 => ?_)
  refine sm_iload_n (pc := 38) dX4_payBill_38 rfl 3 rfl ?_
  refine sm_aJ (pc := 39) dX4_payBill_39 (fun v39 => ?_)
  refine sm_callSL (pc := 40) [.long ((a2 - r7) - r22), .long v39] (fun lq rq Sq hq => m_J9_min_f86c9 Z lq ((a2 - r7) - r22) v39 S22 hq) dX4_payBill_40 mi_J9_min_f86c9 ml_RX4_116 ⟨Nat.le_of_ble_eq_true rfl, Nat.le_of_ble_eq_true rfl, rfl, rfl⟩ rfl (Nat.le_of_ble_eq_true rfl) rfl (fun r40 S40 => ?_)
  refine sm_lstore (pc := 43) (lv' := [(8, .long r40), (6, .long r22), (4, .long r7), (0, .ref c), (1, .int a1), (2, .long a2)]) dX4_payBill_43 (by decide) rfl ?_
  refine sm_aload_n (pc := 45) dX4_payBill_45 rfl 3 rfl ?_
  refine sm_getR (pc := 46) dX4_payBill_46 fr_RX4_19 (by decide) rfl (fun v46 => ?_)
  refine sm_iload_n (pc := 49) dX4_payBill_49 rfl 4 rfl ?_
  refine sm_dup2_11 (pc := 50) dX4_payBill_50 rfl rfl ?_
  refine sm_aJ (pc := 51) dX4_payBill_51 (fun v51 => ?_)
  refine sm_lload (pc := 52) dX4_payBill_52 2 rfl ?_
  refine sm_lsub (pc := 54) dX4_payBill_54 ?_
  refine sm_sJ (pc := 55) dX4_payBill_55 (fun S55 => ?_)
  refine sm_aload_n (pc := 56) dX4_payBill_56 rfl 3 rfl ?_
  refine sm_getR (pc := 57) dX4_payBill_57 fr_RX4_22 (by decide) rfl (fun v57 => ?_)
  refine sm_iload_n (pc := 60) dX4_payBill_60 rfl 4 rfl ?_
  refine sm_dup2_11 (pc := 61) dX4_payBill_61 rfl rfl ?_
  refine sm_aJ (pc := 62) dX4_payBill_62 (fun v62 => ?_)
  refine sm_lload (pc := 63) dX4_payBill_63 1 rfl ?_
  refine sm_lsub (pc := 65) dX4_payBill_65 ?_
  refine sm_sJ (pc := 66) dX4_payBill_66 (fun S66 => ?_)
  refine sm_aload_n (pc := 67) dX4_payBill_67 rfl 3 rfl ?_
  refine sm_getR (pc := 68) dX4_payBill_68 fr_RX4_25 (by decide) rfl (fun v68 => ?_)
  refine sm_iload_n (pc := 71) dX4_payBill_71 rfl 4 rfl ?_
  refine sm_dup2_11 (pc := 72) dX4_payBill_72 rfl rfl ?_
  refine sm_aJ (pc := 73) dX4_payBill_73 (fun v73 => ?_)
  refine sm_lload (pc := 74) dX4_payBill_74 0 rfl ?_
  refine sm_lsub (pc := 76) dX4_payBill_76 ?_
  refine sm_sJ (pc := 77) dX4_payBill_77 (fun S77 => ?_)
  refine sm_aload_n (pc := 78) dX4_payBill_78 rfl 3 rfl ?_
  refine sm_dup (pc := 79) dX4_payBill_79 rfl ?_
  refine sm_getL (pc := 80) dX4_payBill_80 fr_RX4_42 (by decide) rfl (fun v80 => ?_)
  refine sm_lload (pc := 83) dX4_payBill_83 2 rfl ?_
  refine sm_ladd (pc := 85) dX4_payBill_85 ?_
  refine sm_putL (pc := 86) dX4_payBill_86 fw_RX4_42 (by decide) rfl (fun S86 => ?_)
  refine sm_aload_n (pc := 89) dX4_payBill_89 rfl 3 rfl ?_
  refine sm_dup (pc := 90) dX4_payBill_90 rfl ?_
  refine sm_getL (pc := 91) dX4_payBill_91 fr_RX4_45 (by decide) rfl (fun v91 => ?_)
  refine sm_lload (pc := 94) dX4_payBill_94 1 rfl ?_
  refine sm_ladd (pc := 96) dX4_payBill_96 ?_
  refine sm_putL (pc := 97) dX4_payBill_97 fw_RX4_45 (by decide) rfl (fun S97 => ?_)
  refine sm_aload_n (pc := 100) dX4_payBill_100 rfl 3 rfl ?_
  refine sm_dup (pc := 101) dX4_payBill_101 rfl ?_
  refine sm_getL (pc := 102) dX4_payBill_102 fr_RX4_48 (by decide) rfl (fun v102 => ?_)
  refine sm_lload (pc := 105) dX4_payBill_105 0 rfl ?_
  refine sm_ladd (pc := 107) dX4_payBill_107 ?_
  refine sm_putL (pc := 108) dX4_payBill_108 fw_RX4_48 (by decide) rfl (fun S108 => ?_)
  refine sm_lload_n (pc := 111) dX4_payBill_111 rfl 5 rfl ?_
  refine sm_lload (pc := 112) dX4_payBill_112 2 rfl ?_
  refine sm_lsub (pc := 114) dX4_payBill_114 ?_
  refine sm_lload (pc := 115) dX4_payBill_115 1 rfl ?_
  refine sm_lsub (pc := 117) dX4_payBill_117 ?_
  refine sm_lload (pc := 118) dX4_payBill_118 0 rfl ?_
  refine sm_lsub (pc := 120) dX4_payBill_120 ?_
  exact sm_retL (pc := 121) dX4_payBill_121
set_option maxRecDepth 20000 in
set_option maxHeartbeats 4000000 in
theorem m_X4_payBill (Z : ZT) (l : Launch) (c : Nat) (a1 : Int32) (a2 : Int64) (S : St) {r : Int64} {S' : St} (h : F_X4_payBill c a1 a2 S = some (r, S')) : MetX Z l yX4_payBill cX4_payBill 10 (some .long) rm_X4_payBill [.ref c, .int a1, .long a2] S (eL r) S' := Sim.met (by decide +kernel) rfl (Nat.le_of_ble_eq_true rfl) (s_X4_payBill Z c a1 a2 S) l h
set_option maxRecDepth 20000 in
set_option maxHeartbeats 4000000 in
theorem sJ_X4_receive_85 (Z : ZT)  (x3 : Int64) (x5 : Int64)  (S : St) : Sim eL Z rm_X4_receive RX4 cX4_receive 7 (some .long) 85 [(3, .long x3), (5, .long x5)] [] S (J_X4_receive_85  x3 x5 S) := by
  unfold J_X4_receive_85
  refine sm_lload_n (pc := 85) dX4_receive_85 rfl 0 rfl ?_
  refine sm_lload (pc := 86) dX4_receive_86 1 rfl ?_
  refine sm_lsub (pc := 88) dX4_receive_88 ?_
  exact sm_retL (pc := 89) dX4_receive_89
set_option maxRecDepth 20000 in
set_option maxHeartbeats 4000000 in
theorem sJ_X4_receive_34 (Z : ZT)  (x0 : Nat) (x3 : Int64)  (S : St) : Sim eL Z rm_X4_receive RX4 cX4_receive 7 (some .long) 34 [(0, .ref x0), (3, .long x3)] [] S (J_X4_receive_34  x0 x3 S) := by
  unfold J_X4_receive_34
  refine sm_lload_n (pc := 34) dX4_receive_34 rfl 1 rfl ?_
  refine sm_aload_n (pc := 35) dX4_receive_35 rfl 0 rfl ?_
  refine sm_getL (pc := 36) dX4_receive_36 fr_RX4_36 (by decide) rfl (fun v36 => ?_)
  refine sm_callSL (pc := 39) [.long x3, .long v36] (fun lq rq Sq hq => m_J9_min_f86c9 Z lq x3 v36 S hq) dX4_receive_39 mi_J9_min_f86c9 ml_RX4_116 ⟨Nat.le_of_ble_eq_true rfl, Nat.le_of_ble_eq_true rfl, rfl, rfl⟩ rfl (Nat.le_of_ble_eq_true rfl) rfl (fun r39 S39 => ?_)
  refine sm_lstore (pc := 42) (lv' := [(5, .long r39), (0, .ref x0), (3, .long x3)]) dX4_receive_42 (by decide) rfl ?_
  refine sm_aload_n (pc := 44) dX4_receive_44 rfl 1 rfl ?_
  refine sm_dup (pc := 45) dX4_receive_45 rfl ?_
  refine sm_getL (pc := 46) dX4_receive_46 fr_RX4_36 (by decide) rfl (fun v46 => ?_)
  refine sm_lload (pc := 49) dX4_receive_49 0 rfl ?_
  refine sm_lsub (pc := 51) dX4_receive_51 ?_
  refine sm_putL (pc := 52) dX4_receive_52 fw_RX4_36 (by decide) rfl (fun S52 => ?_)
  refine sm_aload_n (pc := 55) dX4_receive_55 rfl 1 rfl ?_
  refine sm_dup (pc := 56) dX4_receive_56 rfl ?_
  refine sm_getL (pc := 57) dX4_receive_57 fr_RX4_48 (by decide) rfl (fun v57 => ?_)
  refine sm_lload (pc := 60) dX4_receive_60 0 rfl ?_
  refine sm_ladd (pc := 62) dX4_receive_62 ?_
  refine sm_putL (pc := 63) dX4_receive_63 fw_RX4_48 (by decide) rfl (fun S63 => ?_)
  refine sm_lload (pc := 66) dX4_receive_66 0 rfl ?_
  refine sm_lconst (pc := 68) (0 : Int64) dX4_receive_68 (by decide) ?_
  refine sm_lcmp_le 85 (pc := 69) dX4_receive_69 dX4_receive_70 rfl ?_ ?_
  · refine sm_sub [2, 0] rfl ?_
    exact sJ_X4_receive_85 Z  x3 r39 S63
  refine sm_aload_n (pc := 73) dX4_receive_73 rfl 1 rfl ?_
  refine sm_getI (pc := 74) dX4_receive_74 fr_RX4_64 (by decide) rfl (fun v74 => ?_)
  refine sm_iconst (pc := 77) (1 : Int32) dX4_receive_77 (by decide) ?_
  refine sm_icmp_ne 85 (pc := 78) dX4_receive_78 rfl ?_ ?_
  · refine sm_sub [2, 0] rfl ?_
    exact sJ_X4_receive_85 Z  x3 r39 S63
  refine sm_aload_n (pc := 81) dX4_receive_81 rfl 1 rfl ?_
  refine sm_callVV (pc := 82) [] (fun lq rq Sq hq => m_X4_findLevel Z lq x0 S63 hq) dX4_receive_82 mi_X4_findLevel ml_RX4_141 ⟨Nat.le_of_ble_eq_true rfl, Nat.le_of_ble_eq_true rfl, rfl, rfl⟩ rfl (by decide) rfl (Nat.le_of_ble_eq_true rfl) rfl (fun _ S82 => ?_)
  refine sm_sub [2, 0] rfl ?_
  exact sJ_X4_receive_85 Z  x3 r39 S82
set_option maxRecDepth 20000 in
set_option maxHeartbeats 4000000 in
theorem sB_X4_receive_5 (Z : ZT) (rec5 : (Nat → Int64 → Int32 → St → Option (Int64 × St))) (h5 : ∀ (x0 : Nat) (x3 : Int64) (x5 : Int32)  (S : St), Sim eL Z rm_X4_receive RX4 cX4_receive 7 (some .long) 5 [(0, .ref x0), (3, .long x3), (5, .int x5)] [] S (rec5 x0 x3 x5 S)) (x0 : Nat) (x3 : Int64) (x5 : Int32)  (S : St) : Sim eL Z rm_X4_receive RX4 cX4_receive 7 (some .long) 5 [(0, .ref x0), (3, .long x3), (5, .int x5)] [] S (B_X4_receive_5 rec5 x0 x3 x5 S) := by
  unfold B_X4_receive_5
  refine sm_iload (pc := 5) dX4_receive_5 2 rfl ?_
  refine sm_aload_n (pc := 7) dX4_receive_7 rfl 0 rfl ?_
  refine sm_getI (pc := 8) dX4_receive_8 fr_RX4_70 (by decide) rfl (fun v8 => ?_)
  refine sm_icmp_gt 34 (pc := 11) dX4_receive_11 rfl ?_ ?_
  · refine sm_sub [0, 1] rfl ?_
    exact sJ_X4_receive_34 Z  x0 x3 S
  refine sm_lload_n (pc := 14) dX4_receive_14 rfl 1 rfl ?_
  refine sm_lconst (pc := 15) (0 : Int64) dX4_receive_15 (by decide) ?_
  refine sm_lcmp_le 34 (pc := 16) dX4_receive_16 dX4_receive_17 rfl ?_ ?_
  · refine sm_sub [0, 1] rfl ?_
    exact sJ_X4_receive_34 Z  x0 x3 S
  refine sm_aload_n (pc := 20) dX4_receive_20 rfl 0 rfl ?_
  refine sm_iload (pc := 21) dX4_receive_21 2 rfl ?_
  refine sm_lload_n (pc := 23) dX4_receive_23 rfl 1 rfl ?_
  refine sm_callVL (pc := 24) [.int x5, .long x3] (fun lq rq Sq hq => m_X4_payBill Z lq x0 x5 x3 S hq) dX4_receive_24 mi_X4_payBill ml_RX4_138 ⟨Nat.le_of_ble_eq_true rfl, Nat.le_of_ble_eq_true rfl, rfl, rfl⟩ rfl (by decide) rfl (Nat.le_of_ble_eq_true rfl) rfl (fun r24 S24 => ?_)
  refine sm_lstore_n (pc := 27) (lv' := [(3, .long r24), (0, .ref x0), (5, .int x5)]) dX4_receive_27 rfl (by decide) rfl ?_
  refine sm_iinc (pc := 28) (x5 + 1) (lv' := [(5, .int (x5 + 1)), (3, .long r24), (0, .ref x0)]) dX4_receive_28 2 rfl rfl (by decide) rfl ?_
  refine sm_goto 5 (pc := 31) dX4_receive_31 rfl ?_
  refine sm_sub [2, 1, 0] rfl ?_
  exact h5 x0 r24 (x5 + 1) S24
set_option maxRecDepth 20000 in
set_option maxHeartbeats 4000000 in
theorem sL_X4_receive_5 (Z : ZT)  (n : Nat) : ∀ (x0 : Nat) (x3 : Int64) (x5 : Int32)  (S : St), Sim eL Z rm_X4_receive RX4 cX4_receive 7 (some .long) 5 [(0, .ref x0), (3, .long x3), (5, .int x5)] [] S (L_X4_receive_5  n x0 x3 x5 S) := by
  induction n with
  | zero => intros; exact sm_none
  | succ n ih => intro x0 x3 x5 S; exact sB_X4_receive_5 Z  (L_X4_receive_5  n) ih x0 x3 x5 S
set_option maxRecDepth 20000 in
set_option maxHeartbeats 4000000 in
theorem s_X4_receive (Z : ZT) (c : Nat) (a1 : Int64) (S : St) : Sim eL Z rm_X4_receive RX4 cX4_receive 7 (some .long) 0 [(0, .ref c), (1, .long a1)] [] S (F_X4_receive c a1 S) := by
  unfold F_X4_receive
  refine sm_lload_n (pc := 0) dX4_receive_0 rfl 1 rfl ?_
  refine sm_lstore_n (pc := 1) (lv' := [(3, .long a1), (0, .ref c), (1, .long a1)]) dX4_receive_1 rfl (by decide) rfl ?_
  refine sm_iconst (pc := 2) (1 : Int32) dX4_receive_2 (by decide) ?_
  refine sm_istore (pc := 3) (lv' := [(5, .int (1 : Int32)), (3, .long a1), (0, .ref c), (1, .long a1)]) dX4_receive_3 (by decide) rfl ?_
  refine sm_sub [2, 1, 0] rfl ?_
  exact sL_X4_receive_5 Z  6000 c a1 (1 : Int32) S
set_option maxRecDepth 20000 in
set_option maxHeartbeats 4000000 in
theorem m_X4_receive (Z : ZT) (l : Launch) (c : Nat) (a1 : Int64) (S : St) {r : Int64} {S' : St} (h : F_X4_receive c a1 S = some (r, S')) : MetX Z l yX4_receive cX4_receive 7 (some .long) rm_X4_receive [.ref c, .long a1] S (eL r) S' := Sim.met (by decide +kernel) rfl (Nat.le_of_ble_eq_true rfl) (s_X4_receive Z c a1 S) l h
set_option maxRecDepth 20000 in
set_option maxHeartbeats 4000000 in
theorem sB_X4_giveUp_7 (Z : ZT) (rec7 : (Nat → Int64 → Int32 → St → Option (Int64 × St))) (h7 : ∀ (x0 : Nat) (x1 : Int64) (x3 : Int32)  (S : St), Sim eL Z rm_X4_giveUp RX4 cX4_giveUp 4 (some .long) 7 [(0, .ref x0), (1, .long x1), (3, .int x3)] [] S (rec7 x0 x1 x3 S)) (x0 : Nat) (x1 : Int64) (x3 : Int32)  (S : St) : Sim eL Z rm_X4_giveUp RX4 cX4_giveUp 4 (some .long) 7 [(0, .ref x0), (1, .long x1), (3, .int x3)] [] S (B_X4_giveUp_7 rec7 x0 x1 x3 S) := by
  unfold B_X4_giveUp_7
  refine sm_iload_n (pc := 7) dX4_giveUp_7 rfl 2 rfl ?_
  refine sm_aload_n (pc := 8) dX4_giveUp_8 rfl 0 rfl ?_
  refine sm_getI (pc := 9) dX4_giveUp_9 fr_RX4_70 (by decide) rfl (fun v9 => ?_)
  refine sm_icmp_gt 30 (pc := 12) dX4_giveUp_12 rfl ?_ ?_
  · refine sm_aload_n (pc := 30) dX4_giveUp_30 rfl 0 rfl ?_
    refine sm_lconst (pc := 31) (0 : Int64) dX4_giveUp_31 (by decide) ?_
    refine sm_putL (pc := 32) dX4_giveUp_32 fw_RX4_36 (by decide) rfl (fun S32 => ?_)
    refine sm_aload_n (pc := 35) dX4_giveUp_35 rfl 0 rfl ?_
    refine sm_callVV (pc := 36) [] (fun lq rq Sq hq => m_X4_clearArrears Z lq x0 S32 hq) dX4_giveUp_36 mi_X4_clearArrears ml_RX4_79 ⟨Nat.le_of_ble_eq_true rfl, Nat.le_of_ble_eq_true rfl, rfl, rfl⟩ rfl (by decide) rfl (Nat.le_of_ble_eq_true rfl) rfl (fun _ S36 => ?_)
    refine sm_aload_n (pc := 39) dX4_giveUp_39 rfl 0 rfl ?_
    refine sm_dup (pc := 40) dX4_giveUp_40 rfl ?_
    refine sm_getL (pc := 41) dX4_giveUp_41 fr_RX4_51 (by decide) rfl (fun v41 => ?_)
    refine sm_lload_n (pc := 44) dX4_giveUp_44 rfl 1 rfl ?_
    refine sm_ladd (pc := 45) dX4_giveUp_45 ?_
    refine sm_putL (pc := 46) dX4_giveUp_46 fw_RX4_51 (by decide) rfl (fun S46 => ?_)
    refine sm_lload_n (pc := 49) dX4_giveUp_49 rfl 1 rfl ?_
    exact sm_retL (pc := 50) dX4_giveUp_50
  refine sm_lload_n (pc := 15) dX4_giveUp_15 rfl 1 rfl ?_
  refine sm_aload_n (pc := 16) dX4_giveUp_16 rfl 0 rfl ?_
  refine sm_getR (pc := 17) dX4_giveUp_17 fr_RX4_25 (by decide) rfl (fun v17 => ?_)
  refine sm_iload_n (pc := 20) dX4_giveUp_20 rfl 2 rfl ?_
  refine sm_aJ (pc := 21) dX4_giveUp_21 (fun v21 => ?_)
  refine sm_ladd (pc := 22) dX4_giveUp_22 ?_
  refine sm_bdJ (fun v23 => ?_)
  refine sm_lstore_n (pc := 23) (lv' := [(1, .long v23), (0, .ref x0), (3, .int x3)]) dX4_giveUp_23 rfl (by decide) rfl ?_
  refine sm_iinc (pc := 24) (x3 + 1) (lv' := [(3, .int (x3 + 1)), (1, .long v23), (0, .ref x0)]) dX4_giveUp_24 2 rfl rfl (by decide) rfl ?_
  refine sm_goto 7 (pc := 27) dX4_giveUp_27 rfl ?_
  refine sm_sub [2, 1, 0] rfl ?_
  exact h7 x0 v23 (x3 + 1) S
set_option maxRecDepth 20000 in
set_option maxHeartbeats 4000000 in
theorem sL_X4_giveUp_7 (Z : ZT)  (n : Nat) : ∀ (x0 : Nat) (x1 : Int64) (x3 : Int32)  (S : St), Sim eL Z rm_X4_giveUp RX4 cX4_giveUp 4 (some .long) 7 [(0, .ref x0), (1, .long x1), (3, .int x3)] [] S (L_X4_giveUp_7  n x0 x1 x3 S) := by
  induction n with
  | zero => intros; exact sm_none
  | succ n ih => intro x0 x1 x3 S; exact sB_X4_giveUp_7 Z  (L_X4_giveUp_7  n) ih x0 x1 x3 S
set_option maxRecDepth 20000 in
set_option maxHeartbeats 4000000 in
theorem s_X4_giveUp (Z : ZT) (c : Nat) (S : St) : Sim eL Z rm_X4_giveUp RX4 cX4_giveUp 4 (some .long) 0 [(0, .ref c)] [] S (F_X4_giveUp c S) := by
  unfold F_X4_giveUp
  refine sm_aload_n (pc := 0) dX4_giveUp_0 rfl 0 rfl ?_
  refine sm_getL (pc := 1) dX4_giveUp_1 fr_RX4_36 (by decide) rfl (fun v1 => ?_)
  refine sm_lstore_n (pc := 4) (lv' := [(1, .long v1), (0, .ref c)]) dX4_giveUp_4 rfl (by decide) rfl ?_
  refine sm_iconst (pc := 5) (1 : Int32) dX4_giveUp_5 (by decide) ?_
  refine sm_istore_n (pc := 6) (lv' := [(3, .int (1 : Int32)), (1, .long v1), (0, .ref c)]) dX4_giveUp_6 rfl (by decide) rfl ?_
  refine sm_sub [2, 1, 0] rfl ?_
  exact sL_X4_giveUp_7 Z  6000 c v1 (1 : Int32) S
set_option maxRecDepth 20000 in
set_option maxHeartbeats 4000000 in
theorem m_X4_giveUp (Z : ZT) (l : Launch) (c : Nat) (S : St) {r : Int64} {S' : St} (h : F_X4_giveUp c S = some (r, S')) : MetX Z l yX4_giveUp cX4_giveUp 4 (some .long) rm_X4_giveUp [.ref c] S (eL r) S' := Sim.met (by decide +kernel) rfl (Nat.le_of_ble_eq_true rfl) (s_X4_giveUp Z c S) l h
set_option maxRecDepth 20000 in
set_option maxHeartbeats 4000000 in
theorem sJ_X4_periodOfBill_32 (Z : ZT) (rec4 : (Nat → Int32 → Int32 → Int32 → St → Option (Int32 × St))) (h4 : ∀ (x0 : Nat) (x1 : Int32) (x2 : Int32) (x3 : Int32)  (S : St), Sim eI Z rm_X4_periodOfBill RX4 cX4_periodOfBill 4 (some .int) 4 [(0, .ref x0), (1, .int x1), (2, .int x2), (3, .int x3)] [] S (rec4 x0 x1 x2 x3 S)) (x0 : Nat) (x1 : Int32) (x2 : Int32) (x3 : Int32)  (S : St) : Sim eI Z rm_X4_periodOfBill RX4 cX4_periodOfBill 4 (some .int) 32 [(0, .ref x0), (1, .int x1), (2, .int x2), (3, .int x3)] [] S (J_X4_periodOfBill_32 rec4 x0 x1 x2 x3 S) := by
  unfold J_X4_periodOfBill_32
  refine sm_iinc (pc := 32) (x3 + 1) (lv' := [(3, .int (x3 + 1)), (0, .ref x0), (1, .int x1), (2, .int x2)]) dX4_periodOfBill_32 3 rfl rfl (by decide) rfl ?_
  refine sm_goto 4 (pc := 35) dX4_periodOfBill_35 rfl ?_
  refine sm_sub [1, 2, 3, 0] rfl ?_
  exact h4 x0 x1 x2 (x3 + 1) S
set_option maxRecDepth 20000 in
set_option maxHeartbeats 4000000 in
theorem sB_X4_periodOfBill_4 (Z : ZT) (rec4 : (Nat → Int32 → Int32 → Int32 → St → Option (Int32 × St))) (h4 : ∀ (x0 : Nat) (x1 : Int32) (x2 : Int32) (x3 : Int32)  (S : St), Sim eI Z rm_X4_periodOfBill RX4 cX4_periodOfBill 4 (some .int) 4 [(0, .ref x0), (1, .int x1), (2, .int x2), (3, .int x3)] [] S (rec4 x0 x1 x2 x3 S)) (x0 : Nat) (x1 : Int32) (x2 : Int32) (x3 : Int32)  (S : St) : Sim eI Z rm_X4_periodOfBill RX4 cX4_periodOfBill 4 (some .int) 4 [(0, .ref x0), (1, .int x1), (2, .int x2), (3, .int x3)] [] S (B_X4_periodOfBill_4 rec4 x0 x1 x2 x3 S) := by
  unfold B_X4_periodOfBill_4
  refine sm_iload_n (pc := 4) dX4_periodOfBill_4 rfl 3 rfl ?_
  refine sm_aload_n (pc := 5) dX4_periodOfBill_5 rfl 0 rfl ?_
  refine sm_getI (pc := 6) dX4_periodOfBill_6 fr_RX4_70 (by decide) rfl (fun v6 => ?_)
  refine sm_icmp_gt 38 (pc := 9) dX4_periodOfBill_9 rfl ?_ ?_
  · refine sm_iconst (pc := 38) (0 : Int32) dX4_periodOfBill_38 (by decide) ?_
    exact sm_retI (pc := 39) dX4_periodOfBill_39
  refine sm_aload_n (pc := 12) dX4_periodOfBill_12 rfl 0 rfl ?_
  refine sm_iload_n (pc := 13) dX4_periodOfBill_13 rfl 3 rfl ?_
  refine sm_callVL (pc := 14) [.int x3] (fun lq rq Sq hq => m_X4_asks Z lq x0 x3 S hq) dX4_periodOfBill_14 mi_X4_asks ml_RX4_134 ⟨Nat.le_of_ble_eq_true rfl, Nat.le_of_ble_eq_true rfl, rfl, rfl⟩ rfl (by decide) rfl (Nat.le_of_ble_eq_true rfl) rfl (fun r14 S14 => ?_)
  refine sm_lconst (pc := 17) (0 : Int64) dX4_periodOfBill_17 (by decide) ?_
  refine sm_lcmp_le 32 (pc := 18) dX4_periodOfBill_18 dX4_periodOfBill_19 rfl ?_ ?_
  · refine sm_sub [0, 1, 2, 3] rfl ?_
    exact sJ_X4_periodOfBill_32 Z rec4 h4 x0 x1 x2 x3 S14
  refine sm_iload_n (pc := 22) dX4_periodOfBill_22 rfl 2 rfl ?_
  refine sm_iload_n (pc := 23) dX4_periodOfBill_23 rfl 1 rfl ?_
  refine sm_icmp_ne 29 (pc := 24) dX4_periodOfBill_24 rfl ?_ ?_
  · refine sm_iinc (pc := 29) (x2 + 1) (lv' := [(2, .int (x2 + 1)), (0, .ref x0), (1, .int x1), (3, .int x3)]) dX4_periodOfBill_29 2 rfl rfl (by decide) rfl ?_
    refine sm_sub [1, 2, 0, 3] rfl ?_
    exact sJ_X4_periodOfBill_32 Z rec4 h4 x0 x1 (x2 + 1) x3 S14
  refine sm_iload_n (pc := 27) dX4_periodOfBill_27 rfl 3 rfl ?_
  exact sm_retI (pc := 28) dX4_periodOfBill_28
set_option maxRecDepth 20000 in
set_option maxHeartbeats 4000000 in
theorem sL_X4_periodOfBill_4 (Z : ZT)  (n : Nat) : ∀ (x0 : Nat) (x1 : Int32) (x2 : Int32) (x3 : Int32)  (S : St), Sim eI Z rm_X4_periodOfBill RX4 cX4_periodOfBill 4 (some .int) 4 [(0, .ref x0), (1, .int x1), (2, .int x2), (3, .int x3)] [] S (L_X4_periodOfBill_4  n x0 x1 x2 x3 S) := by
  induction n with
  | zero => intros; exact sm_none
  | succ n ih => intro x0 x1 x2 x3 S; exact sB_X4_periodOfBill_4 Z  (L_X4_periodOfBill_4  n) ih x0 x1 x2 x3 S
set_option maxRecDepth 20000 in
set_option maxHeartbeats 4000000 in
theorem s_X4_periodOfBill (Z : ZT) (c : Nat) (a1 : Int32) (S : St) : Sim eI Z rm_X4_periodOfBill RX4 cX4_periodOfBill 4 (some .int) 0 [(0, .ref c), (1, .int a1)] [] S (F_X4_periodOfBill c a1 S) := by
  unfold F_X4_periodOfBill
  refine sm_iconst (pc := 0) (0 : Int32) dX4_periodOfBill_0 (by decide) ?_
  refine sm_istore_n (pc := 1) (lv' := [(2, .int (0 : Int32)), (0, .ref c), (1, .int a1)]) dX4_periodOfBill_1 rfl (by decide) rfl ?_
  refine sm_iconst (pc := 2) (1 : Int32) dX4_periodOfBill_2 (by decide) ?_
  refine sm_istore_n (pc := 3) (lv' := [(3, .int (1 : Int32)), (2, .int (0 : Int32)), (0, .ref c), (1, .int a1)]) dX4_periodOfBill_3 rfl (by decide) rfl ?_
  refine sm_sub [2, 3, 1, 0] rfl ?_
  exact sL_X4_periodOfBill_4 Z  6000 c a1 (0 : Int32) (1 : Int32) S
set_option maxRecDepth 20000 in
set_option maxHeartbeats 4000000 in
theorem m_X4_periodOfBill (Z : ZT) (l : Launch) (c : Nat) (a1 : Int32) (S : St) {r : Int32} {S' : St} (h : F_X4_periodOfBill c a1 S = some (r, S')) : MetX Z l yX4_periodOfBill cX4_periodOfBill 4 (some .int) rm_X4_periodOfBill [.ref c, .int a1] S (eI r) S' := Sim.met (by decide +kernel) rfl (Nat.le_of_ble_eq_true rfl) (s_X4_periodOfBill Z c a1 S) l h
set_option maxRecDepth 20000 in
set_option maxHeartbeats 4000000 in
theorem sJ_X4_daysLate_22 (Z : ZT)   (t0 : Int32) (S : St) : Sim eI Z rm_X4_daysLate RX4 cX4_daysLate 3 (some .int) 22 [] [.int t0] S (J_X4_daysLate_22  t0 S) := by
  unfold J_X4_daysLate_22
  exact sm_retI (pc := 22) dX4_daysLate_22
set_option maxRecDepth 20000 in
set_option maxHeartbeats 4000000 in
theorem s_X4_daysLate (Z : ZT) (c : Nat) (a1 : Int32) (S : St) : Sim eI Z rm_X4_daysLate RX4 cX4_daysLate 3 (some .int) 0 [(0, .ref c), (1, .int a1)] [] S (F_X4_daysLate c a1 S) := by
  unfold F_X4_daysLate
  refine sm_aload_n (pc := 0) dX4_daysLate_0 rfl 0 rfl ?_
  refine sm_iconst (pc := 1) (0 : Int32) dX4_daysLate_1 (by decide) ?_
  refine sm_callVI (pc := 2) [.int (0 : Int32)] (fun lq rq Sq hq => m_X4_periodOfBill Z lq c (0 : Int32) S hq) dX4_daysLate_2 mi_X4_periodOfBill ml_RX4_148 ⟨Nat.le_of_ble_eq_true rfl, Nat.le_of_ble_eq_true rfl, rfl, rfl⟩ rfl (by decide) rfl (Nat.le_of_ble_eq_true rfl) rfl (fun r2 S2 => ?_)
  refine sm_istore_n (pc := 5) (lv' := [(2, .int r2), (0, .ref c), (1, .int a1)]) dX4_daysLate_5 rfl (by decide) rfl ?_
  refine sm_iload_n (pc := 6) dX4_daysLate_6 rfl 0 rfl ?_
  refine sm_if_ne 14 (pc := 7) dX4_daysLate_7 rfl ?_ ?_
  · refine sm_iload_n (pc := 14) dX4_daysLate_14 rfl 2 rfl ?_
    refine sm_aload_n (pc := 15) dX4_daysLate_15 rfl 1 rfl ?_
    refine sm_getR (pc := 16) dX4_daysLate_16 fr_RX4_9 (by decide) rfl (fun v16 => ?_)
    refine sm_iload_n (pc := 19) dX4_daysLate_19 rfl 0 rfl ?_
    refine sm_aI (pc := 20) dX4_daysLate_20 (fun v20 => ?_)
    refine sm_isub (pc := 21) dX4_daysLate_21 ?_
    refine sm_sub [] rfl ?_
    exact sJ_X4_daysLate_22 Z  (a1 - v20) S2
  refine sm_iconst (pc := 10) (0 : Int32) dX4_daysLate_10 (by decide) ?_
  refine sm_goto 22 (pc := 11) dX4_daysLate_11 rfl ?_
  refine sm_sub [] rfl ?_
  exact sJ_X4_daysLate_22 Z  (0 : Int32) S2
set_option maxRecDepth 20000 in
set_option maxHeartbeats 4000000 in
theorem m_X4_daysLate (Z : ZT) (l : Launch) (c : Nat) (a1 : Int32) (S : St) {r : Int32} {S' : St} (h : F_X4_daysLate c a1 S = some (r, S')) : MetX Z l yX4_daysLate cX4_daysLate 3 (some .int) rm_X4_daysLate [.ref c, .int a1] S (eI r) S' := Sim.met (by decide +kernel) rfl (Nat.le_of_ble_eq_true rfl) (s_X4_daysLate Z c a1 S) l h
set_option maxRecDepth 20000 in
set_option maxHeartbeats 4000000 in
theorem sB_X5_follow_29 (Z : ZT) (rec29 : (Nat → Nat → Int64 → Int32 → St → Option (Unit × St))) (h29 : ∀ (x0 : Nat) (x1 : Nat) (x2 : Int64) (x4 : Int32)  (S : St), Sim eV Z rm_X5_follow RX5 cX5_follow 5 none 29 [(0, .ref x0), (1, .ref x1), (2, .long x2), (4, .int x4)] [] S (rec29 x0 x1 x2 x4 S)) (x0 : Nat) (x1 : Nat) (x2 : Int64) (x4 : Int32)  (S : St) : Sim eV Z rm_X5_follow RX5 cX5_follow 5 none 29 [(0, .ref x0), (1, .ref x1), (2, .long x2), (4, .int x4)] [] S (B_X5_follow_29 rec29 x0 x1 x2 x4 S) := by
  unfold B_X5_follow_29
  refine sm_iload (pc := 29) dX5_follow_29 3 rfl ?_
  refine sm_aload_n (pc := 31) dX5_follow_31 rfl 0 rfl ?_
  refine sm_getI (pc := 32) dX5_follow_32 fr_RX5_15 (by decide) rfl (fun v32 => ?_)
  refine sm_icmp_gt 97 (pc := 35) dX5_follow_35 rfl ?_ ?_
  · exact sm_retV (pc := 97) dX5_follow_97
  refine sm_aload_n (pc := 38) dX5_follow_38 rfl 0 rfl ?_
  refine sm_getR (pc := 39) dX5_follow_39 fr_RX5_18 (by decide) rfl (fun v39 => ?_)
  refine sm_iload (pc := 42) dX5_follow_42 3 rfl ?_
  refine sm_aload_n (pc := 44) dX5_follow_44 rfl 1 rfl ?_
  refine sm_iload (pc := 45) dX5_follow_45 3 rfl ?_
  refine sm_lload_n (pc := 47) dX5_follow_47 rfl 2 rfl ?_
  refine sm_callVL (pc := 48) [.int x4, .long x2] (fun lq rq Sq hq => m_X4_interestOf Z lq x1 x4 x2 S hq) dX5_follow_48 mi_X4_interestOf ml_RX5_35 ⟨Nat.le_of_ble_eq_true rfl, Nat.le_of_ble_eq_true rfl, rfl, rfl⟩ rfl (by decide) rfl (Nat.le_of_ble_eq_true rfl) rfl (fun r48 S48 => ?_)
  refine sm_sJ (pc := 51) dX5_follow_51 (fun S51 => ?_)
  refine sm_aload_n (pc := 52) dX5_follow_52 rfl 0 rfl ?_
  refine sm_getR (pc := 53) dX5_follow_53 fr_RX5_22 (by decide) rfl (fun v53 => ?_)
  refine sm_iload (pc := 56) dX5_follow_56 3 rfl ?_
  refine sm_aload_n (pc := 58) dX5_follow_58 rfl 1 rfl ?_
  refine sm_iload (pc := 59) dX5_follow_59 3 rfl ?_
  refine sm_lload_n (pc := 61) dX5_follow_61 rfl 2 rfl ?_
  refine sm_aload_n (pc := 62) dX5_follow_62 rfl 0 rfl ?_
  refine sm_getR (pc := 63) dX5_follow_63 fr_RX5_18 (by decide) rfl (fun v63 => ?_)
  refine sm_iload (pc := 66) dX5_follow_66 3 rfl ?_
  refine sm_aJ (pc := 68) dX5_follow_68 (fun v68 => ?_)
  refine sm_callVL (pc := 69) [.int x4, .long x2, .long v68] (fun lq rq Sq hq => m_X4_principalOf Z lq x1 x4 x2 v68 S51 hq) dX5_follow_69 mi_X4_principalOf ml_RX5_39 ⟨Nat.le_of_ble_eq_true rfl, Nat.le_of_ble_eq_true rfl, rfl, rfl⟩ rfl (by decide) rfl (Nat.le_of_ble_eq_true rfl) rfl (fun r69 S69 => ?_)
  refine sm_sJ (pc := 72) dX5_follow_72 (fun S72 => ?_)
  refine sm_lload_n (pc := 73) dX5_follow_73 rfl 2 rfl ?_
  refine sm_aload_n (pc := 74) dX5_follow_74 rfl 0 rfl ?_
  refine sm_getR (pc := 75) dX5_follow_75 fr_RX5_22 (by decide) rfl (fun v75 => ?_)
  refine sm_iload (pc := 78) dX5_follow_78 3 rfl ?_
  refine sm_aJ (pc := 80) dX5_follow_80 (fun v80 => ?_)
  refine sm_lsub (pc := 81) dX5_follow_81 ?_
  refine sm_bdJ (fun v82 => ?_)
  refine sm_lstore_n (pc := 82) (lv' := [(2, .long v82), (0, .ref x0), (1, .ref x1), (4, .int x4)]) dX5_follow_82 rfl (by decide) rfl ?_
  refine sm_aload_n (pc := 83) dX5_follow_83 rfl 1 rfl ?_
  refine sm_getR (pc := 84) dX5_follow_84 fr_RX5_25 (by decide) rfl (fun v84 => ?_)
  refine sm_iload (pc := 87) dX5_follow_87 3 rfl ?_
  refine sm_lload_n (pc := 89) dX5_follow_89 rfl 0 rfl ?_
  refine sm_sJ (pc := 90) dX5_follow_90 (fun S90 => ?_)
  refine sm_iinc (pc := 91) (x4 + 1) (lv' := [(4, .int (x4 + 1)), (2, .long v82), (0, .ref x0), (1, .ref x1)]) dX5_follow_91 3 rfl rfl (by decide) rfl ?_
  refine sm_goto 29 (pc := 94) dX5_follow_94 rfl ?_
  refine sm_sub [2, 3, 1, 0] rfl ?_
  exact h29 x0 x1 v82 (x4 + 1) S90
set_option maxRecDepth 20000 in
set_option maxHeartbeats 4000000 in
theorem sL_X5_follow_29 (Z : ZT)  (n : Nat) : ∀ (x0 : Nat) (x1 : Nat) (x2 : Int64) (x4 : Int32)  (S : St), Sim eV Z rm_X5_follow RX5 cX5_follow 5 none 29 [(0, .ref x0), (1, .ref x1), (2, .long x2), (4, .int x4)] [] S (L_X5_follow_29  n x0 x1 x2 x4 S) := by
  induction n with
  | zero => intros; exact sm_none
  | succ n ih => intro x0 x1 x2 x4 S; exact sB_X5_follow_29 Z  (L_X5_follow_29  n) ih x0 x1 x2 x4 S
set_option maxRecDepth 20000 in
set_option maxHeartbeats 4000000 in
theorem s_X5_follow (Z : ZT) (c : Nat) (a1 : Nat) (S : St) : Sim eV Z rm_X5_follow RX5 cX5_follow 5 none 0 [(0, .ref c), (1, .ref a1)] [] S (F_X5_follow c a1 S) := by
  unfold F_X5_follow
  refine sm_aload_n (pc := 0) dX5_follow_0 rfl 0 rfl ?_
  refine sm_aload_n (pc := 1) dX5_follow_1 rfl 1 rfl ?_
  refine sm_getI (pc := 2) dX5_follow_2 fr_RX5_28 (by decide) rfl (fun v2 => ?_)
  refine sm_putI (pc := 5) dX5_follow_5 fw_RX5_9 (by decide) rfl (fun S5 => ?_)
  refine sm_aload_n (pc := 8) dX5_follow_8 rfl 0 rfl ?_
  refine sm_aload_n (pc := 9) dX5_follow_9 rfl 1 rfl ?_
  refine sm_getI (pc := 10) dX5_follow_10 fr_RX5_31 (by decide) rfl (fun v10 => ?_)
  refine sm_putI (pc := 13) dX5_follow_13 fw_RX5_15 (by decide) rfl (fun S13 => ?_)
  refine sm_aload_n (pc := 16) dX5_follow_16 rfl 1 rfl ?_
  refine sm_getL (pc := 17) dX5_follow_17 fr_RX5_32 (by decide) rfl (fun v17 => ?_)
  refine sm_lstore_n (pc := 20) (lv' := [(2, .long v17), (0, .ref c), (1, .ref a1)]) dX5_follow_20 rfl (by decide) rfl ?_
  refine sm_aload_n (pc := 21) dX5_follow_21 rfl 1 rfl ?_
  refine sm_getI (pc := 22) dX5_follow_22 fr_RX5_9 (by decide) rfl (fun v22 => ?_)
  refine sm_iconst (pc := 25) (1 : Int32) dX5_follow_25 (by decide) ?_
  refine sm_iadd (pc := 26) dX5_follow_26 ?_
  refine sm_bdI (fun v27 => ?_)
  refine sm_istore (pc := 27) (lv' := [(4, .int v27), (2, .long v17), (0, .ref c), (1, .ref a1)]) dX5_follow_27 (by decide) rfl ?_
  refine sm_sub [2, 3, 1, 0] rfl ?_
  exact sL_X5_follow_29 Z  6000 c a1 v17 v27 S13
set_option maxRecDepth 20000 in
set_option maxHeartbeats 4000000 in
theorem m_X5_follow (Z : ZT) (l : Launch) (c : Nat) (a1 : Nat) (S : St) {r : Unit} {S' : St} (h : F_X5_follow c a1 S = some (r, S')) : MetX Z l yX5_follow cX5_follow 5 none rm_X5_follow [.ref c, .ref a1] S (eV r) S' := Sim.met (by decide +kernel) rfl (Nat.le_of_ble_eq_true rfl) (s_X5_follow Z c a1 S) l h
