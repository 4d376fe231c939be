set_option maxRecDepth 20000 in
set_option maxHeartbeats 4000000 in
theorem sJ_X8_toCome_24 (Z : ZT)    (S : St) : Sim eL Z rm_X8_toCome RX8 cX8_toCome 5 (some .long) 24 [] [] S (J_X8_toCome_24  S) := by
  unfold J_X8_toCome_24
  refine sm_ldc2 (pc := 24) (-1 : Int64) dX8_toCome_24 kc_RX8_134 ?_
  exact sm_retL (pc := 27) dX8_toCome_27
set_option maxRecDepth 20000 in
set_option maxHeartbeats 4000000 in
theorem sJ_X8_toCome_101 (Z : ZT)   (t0 : Int64) (S : St) : Sim eL Z rm_X8_toCome RX8 cX8_toCome 5 (some .long) 101 [] [.long t0] S (J_X8_toCome_101  t0 S) := by
  unfold J_X8_toCome_101
  exact sm_retL (pc := 101) dX8_toCome_101
set_option maxRecDepth 20000 in
set_option maxHeartbeats 4000000 in
theorem s_X8_toCome (Z : ZT) (c : Nat) (a1 : Int32) (a2 : Int32) (a3 : Int32) (S : St) : Sim eL Z rm_X8_toCome RX8 cX8_toCome 5 (some .long) 0 [(0, .ref c), (1, .int a1), (2, .int a2), (3, .int a3)] [] S (F_X8_toCome c a1 a2 a3 S) := by
  unfold F_X8_toCome
  refine sm_aload_n (pc := 0) dX8_toCome_0 rfl 0 rfl ?_
  refine sm_iload_n (pc := 1) dX8_toCome_1 rfl 1 rfl ?_
  refine sm_callVI (pc := 2) [.int a1] (fun lq rq Sq hq => m_X8_isLoan Z lq c a1 S hq) dX8_toCome_2 mi_X8_isLoan ml_RX8_197 ⟨Nat.le_of_ble_eq_true rfl, Nat.le_of_ble_eq_true rfl, rfl, rfl⟩ rfl (by decide) rfl (Nat.le_of_ble_eq_true rfl) rfl (fun r2 S2 => ?_)
  refine sm_if_eq 24 (pc := 5) dX8_toCome_5 rfl ?_ ?_
  · refine sm_sub [] rfl ?_
    exact sJ_X8_toCome_24 Z  S2
  refine sm_iload_n (pc := 8) dX8_toCome_8 rfl 2 rfl ?_
  refine sm_if_lt 24 (pc := 9) dX8_toCome_9 rfl ?_ ?_
  · refine sm_sub [] rfl ?_
    exact sJ_X8_toCome_24 Z  S2
  refine sm_iload_n (pc := 12) dX8_toCome_12 rfl 3 rfl ?_
  refine sm_i2l (pc := 13) dX8_toCome_13 ?_
  refine sm_lconst (pc := 14) (0 : Int64) dX8_toCome_14 (by decide) ?_
  refine sm_ldc2 (pc := 15) (3 : Int64) dX8_toCome_15 kc_RX8_92 ?_
  refine sm_callSI (pc := 18) [.long (Int32.toInt64 a3), .long (0 : Int64), .long (3 : Int64)] (fun lq rq Sq hq => m_X8_in Z lq (Int32.toInt64 a3) (0 : Int64) (3 : Int64) S2 hq) dX8_toCome_18 mi_X8_in ml_RX8_85 ⟨Nat.le_of_ble_eq_true rfl, Nat.le_of_ble_eq_true rfl, rfl, rfl⟩ rfl (Nat.le_of_ble_eq_true rfl) rfl (fun r18 S18 => ?_)
  refine sm_if_ne 28 (pc := 21) dX8_toCome_21 rfl ?_ ?_
  · refine sm_aload_n (pc := 28) dX8_toCome_28 rfl 0 rfl ?_
    refine sm_iload_n (pc := 29) dX8_toCome_29 rfl 1 rfl ?_
    refine sm_callVV (pc := 30) [.int a1] (fun lq rq Sq hq => m_X8_comes Z lq c a1 S18 hq) dX8_toCome_30 mi_X8_comes ml_RX8_219 ⟨Nat.le_of_ble_eq_true rfl, Nat.le_of_ble_eq_true rfl, rfl, rfl⟩ rfl (by decide) rfl (Nat.le_of_ble_eq_true rfl) rfl (fun _ S30 => ?_)
    refine sm_aload_n (pc := 33) dX8_toCome_33 rfl 0 rfl ?_
    refine sm_iload_n (pc := 34) dX8_toCome_34 rfl 2 rfl ?_
    refine sm_callVI (pc := 35) [.int a2] (fun lq rq Sq hq => m_X8_nth Z lq c a2 S30 hq) dX8_toCome_35 mi_X8_nth ml_RX8_231 ⟨Nat.le_of_ble_eq_true rfl, Nat.le_of_ble_eq_true rfl, rfl, rfl⟩ rfl (by decide) rfl (Nat.le_of_ble_eq_true rfl) rfl (fun r35 S35 => ?_)
    refine sm_istore (pc := 38) (lv' := [(4, .int r35), (0, .ref c), (1, .int a1), (2, .int a2), (3, .int a3)]) dX8_toCome_38 (by decide) rfl ?_
    refine sm_iload (pc := 40) dX8_toCome_40 0 rfl ?_
    refine sm_if_ge 49 (pc := 42) dX8_toCome_42 rfl ?_ ?_
    · refine sm_iload_n (pc := 49) dX8_toCome_49 rfl 4 rfl ?_
      refine sm_if_ne 64 (pc := 50) dX8_toCome_50 rfl ?_ ?_
      · refine sm_iload_n (pc := 64) dX8_toCome_64 rfl 4 rfl ?_
        refine sm_iconst (pc := 65) (1 : Int32) dX8_toCome_65 (by decide) ?_
        refine sm_icmp_ne 79 (pc := 66) dX8_toCome_66 rfl ?_ ?_
        · refine sm_iload_n (pc := 79) dX8_toCome_79 rfl 4 rfl ?_
          refine sm_iconst (pc := 80) (2 : Int32) dX8_toCome_80 (by decide) ?_
          refine sm_icmp_ne 94 (pc := 81) dX8_toCome_81 rfl ?_ ?_
          · refine sm_aload_n (pc := 94) dX8_toCome_94 rfl 1 rfl ?_
            refine sm_getR (pc := 95) dX8_toCome_95 fr_RX8_32 (by decide) rfl (fun v95 => ?_)
            refine sm_iload (pc := 98) dX8_toCome_98 0 rfl ?_
            refine sm_aJ (pc := 100) dX8_toCome_100 (fun v100 => ?_)
            refine sm_sub [] rfl ?_
            exact sJ_X8_toCome_101 Z  v100 S35
          refine sm_aload_n (pc := 84) dX8_toCome_84 rfl 1 rfl ?_
          refine sm_getR (pc := 85) dX8_toCome_85 fr_RX8_29 (by decide) rfl (fun v85 => ?_)
          refine sm_iload (pc := 88) dX8_toCome_88 0 rfl ?_
          refine sm_aJ (pc := 90) dX8_toCome_90 (fun v90 => ?_)
          refine sm_goto 101 (pc := 91) dX8_toCome_91 rfl ?_
          refine sm_sub [] rfl ?_
          exact sJ_X8_toCome_101 Z  v90 S35
        refine sm_aload_n (pc := 69) dX8_toCome_69 rfl 1 rfl ?_
        refine sm_getR (pc := 70) dX8_toCome_70 fr_RX8_26 (by decide) rfl (fun v70 => ?_)
        refine sm_iload (pc := 73) dX8_toCome_73 0 rfl ?_
        refine sm_aJ (pc := 75) dX8_toCome_75 (fun v75 => ?_)
        refine sm_goto 101 (pc := 76) dX8_toCome_76 rfl ?_
        refine sm_sub [] rfl ?_
        exact sJ_X8_toCome_101 Z  v75 S35
      refine sm_aload_n (pc := 53) dX8_toCome_53 rfl 1 rfl ?_
      refine sm_getR (pc := 54) dX8_toCome_54 fr_RX8_22 (by decide) rfl (fun v54 => ?_)
      refine sm_iload (pc := 57) dX8_toCome_57 0 rfl ?_
      refine sm_aI (pc := 59) dX8_toCome_59 (fun v59 => ?_)
      refine sm_i2l (pc := 60) dX8_toCome_60 ?_
      refine sm_goto 101 (pc := 61) dX8_toCome_61 rfl ?_
      refine sm_sub [] rfl ?_
      exact sJ_X8_toCome_101 Z  (Int32.toInt64 v59) S35
    refine sm_ldc2 (pc := 45) (-2 : Int64) dX8_toCome_45 kc_RX8_226 ?_
    exact sm_retL (pc := 48) dX8_toCome_48
  refine sm_sub [] rfl ?_
  exact sJ_X8_toCome_24 Z  S18
set_option maxRecDepth 20000 in
set_option maxHeartbeats 4000000 in
theorem m_X8_toCome (Z : ZT) (l : Launch) (c : Nat) (a1 : Int32) (a2 : Int32) (a3 : Int32) (S : St) {r : Int64} {S' : St} (h : F_X8_toCome c a1 a2 a3 S = some (r, S')) : MetX Z l yX8_toCome cX8_toCome 5 (some .long) rm_X8_toCome [.ref c, .int a1, .int a2, .int a3] S (eL r) S' := Sim.met (by decide +kernel) rfl (Nat.le_of_ble_eq_true rfl) (s_X8_toCome Z c a1 a2 a3 S) l h
set_option maxRecDepth 20000 in
set_option maxHeartbeats 4000000 in
theorem sJ_X8_coming_20 (Z : ZT)    (S : St) : Sim eL Z rm_X8_coming RX8 cX8_coming 9 (some .long) 20 [] [] S (J_X8_coming_20  S) := by
  unfold J_X8_coming_20
  refine sm_ldc2 (pc := 20) (-1 : Int64) dX8_coming_20 kc_RX8_134 ?_
  exact sm_retL (pc := 23) dX8_coming_23
set_option maxRecDepth 20000 in
set_option maxHeartbeats 4000000 in
theorem sJ_X8_coming_100 (Z : ZT) (rec42 : (Nat → Int32 → Int32 → Int64 → Int64 → Int32 → St → Option (Int64 × St))) (h42 : ∀ (x0 : Nat) (x2 : Int32) (x3 : Int32) (x4 : Int64) (x6 : Int64) (x8 : Int32)  (S : St), Sim eL Z rm_X8_coming RX8 cX8_coming 9 (some .long) 42 [(0, .ref x0), (2, .int x2), (3, .int x3), (4, .long x4), (6, .long x6), (8, .int x8)] [] S (rec42 x0 x2 x3 x4 x6 x8 S)) (x0 : Nat) (x2 : Int32) (x3 : Int32) (x4 : Int64) (x6 : Int64) (x8 : Int32)  (S : St) : Sim eL Z rm_X8_coming RX8 cX8_coming 9 (some .long) 100 [(0, .ref x0), (2, .int x2), (3, .int x3), (4, .long x4), (6, .long x6), (8, .int x8)] [] S (J_X8_coming_100 rec42 x0 x2 x3 x4 x6 x8 S) := by
  unfold J_X8_coming_100
  refine sm_iinc (pc := 100) (x8 + 1) (lv' := [(8, .int (x8 + 1)), (0, .ref x0), (2, .int x2), (3, .int x3), (4, .long x4), (6, .long x6)]) dX8_coming_100 5 rfl rfl (by decide) rfl ?_
  refine sm_goto 42 (pc := 103) dX8_coming_103 rfl ?_
  refine sm_sub [1, 2, 3, 4, 5, 0] rfl ?_
  exact h42 x0 x2 x3 x4 x6 (x8 + 1) S
set_option maxRecDepth 20000 in
set_option maxHeartbeats 4000000 in
theorem sJ_X8_coming_98 (Z : ZT) (rec42 : (Nat → Int32 → Int32 → Int64 → Int64 → Int32 → St → Option (Int64 × St))) (h42 : ∀ (x0 : Nat) (x2 : Int32) (x3 : Int32) (x4 : Int64) (x6 : Int64) (x8 : Int32)  (S : St), Sim eL Z rm_X8_coming RX8 cX8_coming 9 (some .long) 42 [(0, .ref x0), (2, .int x2), (3, .int x3), (4, .long x4), (6, .long x6), (8, .int x8)] [] S (rec42 x0 x2 x3 x4 x6 x8 S)) (x0 : Nat) (x2 : Int32) (x3 : Int32) (x4 : Int64) (x8 : Int32) (t0 : Int64) (S : St) : Sim eL Z rm_X8_coming RX8 cX8_coming 9 (some .long) 98 [(0, .ref x0), (2, .int x2), (3, .int x3), (4, .long x4), (8, .int x8)] [.long t0] S (J_X8_coming_98 rec42 x0 x2 x3 x4 x8 t0 S) := by
  unfold J_X8_coming_98
  refine sm_lstore (pc := 98) (lv' := [(6, .long t0), (0, .ref x0), (2, .int x2), (3, .int x3), (4, .long x4), (8, .int x8)]) dX8_coming_98 (by decide) rfl ?_
  refine sm_sub [1, 2, 3, 4, 0, 5] rfl ?_
  exact sJ_X8_coming_100 Z rec42 h42 x0 x2 x3 x4 t0 x8 S
set_option maxRecDepth 20000 in
set_option maxHeartbeats 4000000 in
theorem sJ_X8_coming_127 (Z : ZT)   (t0 : Int64) (S : St) : Sim eL Z rm_X8_coming RX8 cX8_coming 9 (some .long) 127 [] [.long t0] S (J_X8_coming_127  t0 S) := by
  unfold J_X8_coming_127
  exact sm_retL (pc := 127) dX8_coming_127
set_option maxRecDepth 20000 in
set_option maxHeartbeats 4000000 in
theorem sB_X8_coming_42 (Z : ZT) (rec42 : (Nat → Int32 → Int32 → Int64 → Int64 → Int32 → St → Option (Int64 × St))) (h42 : ∀ (x0 : Nat) (x2 : Int32) (x3 : Int32) (x4 : Int64) (x6 : Int64) (x8 : Int32)  (S : St), Sim eL Z rm_X8_coming RX8 cX8_coming 9 (some .long) 42 [(0, .ref x0), (2, .int x2), (3, .int x3), (4, .long x4), (6, .long x6), (8, .int x8)] [] S (rec42 x0 x2 x3 x4 x6 x8 S)) (x0 : Nat) (x2 : Int32) (x3 : Int32) (x4 : Int64) (x6 : Int64) (x8 : Int32)  (S : St) : Sim eL Z rm_X8_coming RX8 cX8_coming 9 (some .long) 42 [(0, .ref x0), (2, .int x2), (3, .int x3), (4, .long x4), (6, .long x6), (8, .int x8)] [] S (B_X8_coming_42 rec42 x0 x2 x3 x4 x6 x8 S) := by
  unfold B_X8_coming_42
  refine sm_iload (pc := 42) dX8_coming_42 5 rfl ?_
  refine sm_aload_n (pc := 44) dX8_coming_44 rfl 0 rfl ?_
  refine sm_getI (pc := 45) dX8_coming_45 fr_RX8_222 (by decide) rfl (fun v45 => ?_)
  refine sm_icmp_ge 106 (pc := 48) dX8_coming_48 rfl ?_ ?_
  · refine sm_iload_n (pc := 106) dX8_coming_106 rfl 1 rfl ?_
    refine sm_if_ne 115 (pc := 107) dX8_coming_107 rfl ?_ ?_
    · refine sm_iload_n (pc := 115) dX8_coming_115 rfl 1 rfl ?_
      refine sm_iconst (pc := 116) (1 : Int32) dX8_coming_116 (by decide) ?_
      refine sm_icmp_ne 125 (pc := 117) dX8_coming_117 rfl ?_ ?_
      · refine sm_lload (pc := 125) dX8_coming_125 4 rfl ?_
        refine sm_sub [] rfl ?_
        exact sJ_X8_coming_127 Z  x6 S
      refine sm_lload (pc := 120) dX8_coming_120 3 rfl ?_
      refine sm_goto 127 (pc := 122) dX8_coming_122 rfl ?_
      refine sm_sub [] rfl ?_
      exact sJ_X8_coming_127 Z  x4 S
    refine sm_iload_n (pc := 110) dX8_coming_110 rfl 2 rfl ?_
    refine sm_i2l (pc := 111) dX8_coming_111 ?_
    refine sm_goto 127 (pc := 112) dX8_coming_112 rfl ?_
    refine sm_sub [] rfl ?_
    exact sJ_X8_coming_127 Z  (Int32.toInt64 x3) S
  refine sm_aload_n (pc := 51) dX8_coming_51 rfl 0 rfl ?_
  refine sm_iload (pc := 52) dX8_coming_52 5 rfl ?_
  refine sm_callVL (pc := 54) [.int x8] (fun lq rq Sq hq => m_X8_flow Z lq x0 x8 S hq) dX8_coming_54 mi_X8_flow ml_RX8_228 ⟨Nat.le_of_ble_eq_true rfl, Nat.le_of_ble_eq_true rfl, rfl, rfl⟩ rfl (by decide) rfl (Nat.le_of_ble_eq_true rfl) rfl (fun r54 S54 => ?_)
  refine sm_lconst (pc := 57) (0 : Int64) dX8_coming_57 (by decide) ?_
  refine sm_lcmp_le 100 (pc := 58) dX8_coming_58 dX8_coming_59 rfl ?_ ?_
  · refine sm_sub [0, 1, 2, 3, 4, 5] rfl ?_
    exact sJ_X8_coming_100 Z rec42 h42 x0 x2 x3 x4 x6 x8 S54
  refine sm_iinc (pc := 62) (x3 + 1) (lv' := [(3, .int (x3 + 1)), (0, .ref x0), (2, .int x2), (4, .long x4), (6, .long x6), (8, .int x8)]) dX8_coming_62 2 rfl rfl (by decide) rfl ?_
  refine sm_aload_n (pc := 65) dX8_coming_65 rfl 1 rfl ?_
  refine sm_getR (pc := 66) dX8_coming_66 fr_RX8_22 (by decide) rfl (fun v66 => ?_)
  refine sm_iload (pc := 69) dX8_coming_69 5 rfl ?_
  refine sm_aI (pc := 71) dX8_coming_71 (fun v71 => ?_)
  refine sm_i2l (pc := 72) dX8_coming_72 ?_
  refine sm_bdJ (fun v73 => ?_)
  refine sm_lstore (pc := 73) (lv' := [(4, .long v73), (3, .int (x3 + 1)), (0, .ref x0), (2, .int x2), (6, .long x6), (8, .int x8)]) dX8_coming_73 (by decide) rfl ?_
  refine sm_aload_n (pc := 75) dX8_coming_75 rfl 2 rfl ?_
  refine sm_iload (pc := 76) dX8_coming_76 5 rfl ?_
  refine sm_callVL (pc := 78) [.int x8] (fun lq rq Sq hq => m_X8_flow Z lq x0 x8 S54 hq) dX8_coming_78 mi_X8_flow ml_RX8_228 ⟨Nat.le_of_ble_eq_true rfl, Nat.le_of_ble_eq_true rfl, rfl, rfl⟩ rfl (by decide) rfl (Nat.le_of_ble_eq_true rfl) rfl (fun r78 S78 => ?_)
  refine sm_lload (pc := 81) dX8_coming_81 4 rfl ?_
  refine sm_lcmp_le 96 (pc := 83) dX8_coming_83 dX8_coming_84 rfl ?_ ?_
  · refine sm_lload (pc := 96) dX8_coming_96 4 rfl ?_
    refine sm_sub [2, 3, 1, 0, 5] rfl ?_
    exact sJ_X8_coming_98 Z rec42 h42 x0 x2 (x3 + 1) v73 x8 x6 S78
  refine sm_aload_n (pc := 87) dX8_coming_87 rfl 2 rfl ?_
  refine sm_iload (pc := 88) dX8_coming_88 5 rfl ?_
  refine sm_callVL (pc := 90) [.int x8] (fun lq rq Sq hq => m_X8_flow Z lq x0 x8 S78 hq) dX8_coming_90 mi_X8_flow ml_RX8_228 ⟨Nat.le_of_ble_eq_true rfl, Nat.le_of_ble_eq_true rfl, rfl, rfl⟩ rfl (by decide) rfl (Nat.le_of_ble_eq_true rfl) rfl (fun r90 S90 => ?_)
  refine sm_goto 98 (pc := 93) dX8_coming_93 rfl ?_
  refine sm_sub [2, 3, 1, 0, 5] rfl ?_
  exact sJ_X8_coming_98 Z rec42 h42 x0 x2 (x3 + 1) v73 x8 r90 S90
set_option maxRecDepth 20000 in
set_option maxHeartbeats 4000000 in
theorem sL_X8_coming_42 (Z : ZT)  (n : Nat) : ∀ (x0 : Nat) (x2 : Int32) (x3 : Int32) (x4 : Int64) (x6 : Int64) (x8 : Int32)  (S : St), Sim eL Z rm_X8_coming RX8 cX8_coming 9 (some .long) 42 [(0, .ref x0), (2, .int x2), (3, .int x3), (4, .long x4), (6, .long x6), (8, .int x8)] [] S (L_X8_coming_42  n x0 x2 x3 x4 x6 x8 S) := by
  induction n with
  | zero => intros; exact sm_none
  | succ n ih => intro x0 x2 x3 x4 x6 x8 S; exact sB_X8_coming_42 Z  (L_X8_coming_42  n) ih x0 x2 x3 x4 x6 x8 S
set_option maxRecDepth 20000 in
set_option maxHeartbeats 4000000 in
theorem s_X8_coming (Z : ZT) (c : Nat) (a1 : Int32) (a2 : Int32) (S : St) : Sim eL Z rm_X8_coming RX8 cX8_coming 9 (some .long) 0 [(0, .ref c), (1, .int a1), (2, .int a2)] [] S (F_X8_coming c a1 a2 S) := by
  unfold F_X8_coming
  refine sm_aload_n (pc := 0) dX8_coming_0 rfl 0 rfl ?_
  refine sm_iload_n (pc := 1) dX8_coming_1 rfl 1 rfl ?_
  refine sm_callVI (pc := 2) [.int a1] (fun lq rq Sq hq => m_X8_isLoan Z lq c a1 S hq) dX8_coming_2 mi_X8_isLoan ml_RX8_197 ⟨Nat.le_of_ble_eq_true rfl, Nat.le_of_ble_eq_true rfl, rfl, rfl⟩ rfl (by decide) rfl (Nat.le_of_ble_eq_true rfl) rfl (fun r2 S2 => ?_)
  refine sm_if_eq 20 (pc := 5) dX8_coming_5 rfl ?_ ?_
  · refine sm_sub [] rfl ?_
    exact sJ_X8_coming_20 Z  S2
  refine sm_iload_n (pc := 8) dX8_coming_8 rfl 2 rfl ?_
  refine sm_i2l (pc := 9) dX8_coming_9 ?_
  refine sm_lconst (pc := 10) (0 : Int64) dX8_coming_10 (by decide) ?_
  refine sm_ldc2 (pc := 11) (2 : Int64) dX8_coming_11 kc_RX8_124 ?_
  refine sm_callSI (pc := 14) [.long (Int32.toInt64 a2), .long (0 : Int64), .long (2 : Int64)] (fun lq rq Sq hq => m_X8_in Z lq (Int32.toInt64 a2) (0 : Int64) (2 : Int64) S2 hq) dX8_coming_14 mi_X8_in ml_RX8_85 ⟨Nat.le_of_ble_eq_true rfl, Nat.le_of_ble_eq_true rfl, rfl, rfl⟩ rfl (Nat.le_of_ble_eq_true rfl) rfl (fun r14 S14 => ?_)
  refine sm_if_ne 24 (pc := 17) dX8_coming_17 rfl ?_ ?_
  · refine sm_aload_n (pc := 24) dX8_coming_24 rfl 0 rfl ?_
    refine sm_iload_n (pc := 25) dX8_coming_25 rfl 1 rfl ?_
    refine sm_callVV (pc := 26) [.int a1] (fun lq rq Sq hq => m_X8_comes Z lq c a1 S14 hq) dX8_coming_26 mi_X8_comes ml_RX8_219 ⟨Nat.le_of_ble_eq_true rfl, Nat.le_of_ble_eq_true rfl, rfl, rfl⟩ rfl (by decide) rfl (Nat.le_of_ble_eq_true rfl) rfl (fun _ S26 => ?_)
    refine sm_iconst (pc := 29) (0 : Int32) dX8_coming_29 (by decide) ?_
    refine sm_istore_n (pc := 30) (lv' := [(3, .int (0 : Int32)), (0, .ref c), (1, .int a1), (2, .int a2)]) dX8_coming_30 rfl (by decide) rfl ?_
    refine sm_ldc2 (pc := 31) (-2 : Int64) dX8_coming_31 kc_RX8_226 ?_
    refine sm_lstore (pc := 34) (lv' := [(4, .long (-2 : Int64)), (3, .int (0 : Int32)), (0, .ref c), (1, .int a1), (2, .int a2)]) dX8_coming_34 (by decide) rfl ?_
    refine sm_lconst (pc := 36) (0 : Int64) dX8_coming_36 (by decide) ?_
    refine sm_lstore (pc := 37) (lv' := [(6, .long (0 : Int64)), (4, .long (-2 : Int64)), (3, .int (0 : Int32)), (0, .ref c), (1, .int a1), (2, .int a2)]) dX8_coming_37 (by decide) rfl ?_
    refine sm_iconst (pc := 39) (0 : Int32) dX8_coming_39 (by decide) ?_
    refine sm_istore (pc := 40) (lv' := [(8, .int (0 : Int32)), (6, .long (0 : Int64)), (4, .long (-2 : Int64)), (3, .int (0 : Int32)), (0, .ref c), (1, .int a1), (2, .int a2)]) dX8_coming_40 (by decide) rfl ?_
    refine sm_sub [4, 6, 3, 2, 1, 0] rfl ?_
    exact sL_X8_coming_42 Z  6000 c a2 (0 : Int32) (-2 : Int64) (0 : Int64) (0 : Int32) S26
  refine sm_sub [] rfl ?_
  exact sJ_X8_coming_20 Z  S14
set_option maxRecDepth 20000 in
set_option maxHeartbeats 4000000 in
theorem m_X8_coming (Z : ZT) (l : Launch) (c : Nat) (a1 : Int32) (a2 : Int32) (S : St) {r : Int64} {S' : St} (h : F_X8_coming c a1 a2 S = some (r, S')) : MetX Z l yX8_coming cX8_coming 9 (some .long) rm_X8_coming [.ref c, .int a1, .int a2] S (eL r) S' := Sim.met (by decide +kernel) rfl (Nat.le_of_ble_eq_true rfl) (s_X8_coming Z c a1 a2 S) l h
set_option maxRecDepth 20000 in
set_option maxHeartbeats 4000000 in
theorem sJ_X8_valueOf_43 (Z : ZT) (rec11 : (Nat → UInt64 → Int32 → UInt64 → Int32 → St → Option (UInt64 × St))) (h11 : ∀ (x0 : Nat) (x1 : UInt64) (x3 : Int32) (x4 : UInt64) (x6 : Int32)  (S : St), Sim eD Z rm_X8_valueOf RX8 cX8_valueOf 9 (some .double) 11 [(0, .ref x0), (1, .double x1), (3, .int x3), (4, .double x4), (6, .int x6)] [] S (rec11 x0 x1 x3 x4 x6 S)) (x0 : Nat) (x1 : UInt64) (x3 : Int32) (x4 : UInt64) (x6 : Int32) (t0 : UInt64) (S : St) : Sim eD Z rm_X8_valueOf RX8 cX8_valueOf 9 (some .double) 43 [(0, .ref x0), (1, .double x1), (3, .int x3), (4, .double x4), (6, .int x6)] [.double t0] S (J_X8_valueOf_43 rec11 x0 x1 x3 x4 x6 t0 S) := by
  unfold J_X8_valueOf_43
  refine sm_dstore (pc := 43) (lv' := [(7, .double t0), (0, .ref x0), (1, .double x1), (3, .int x3), (4, .double x4), (6, .int x6)]) dX8_valueOf_43 (by decide) rfl ?_
  refine sm_dload (pc := 45) dX8_valueOf_45 4 rfl ?_
  refine sm_dload (pc := 47) dX8_valueOf_47 0 rfl ?_
  refine sm_dadd (pc := 49) dX8_valueOf_49 (fun v49 => ?_)
  refine sm_dconst1 (pc := 50) dX8_valueOf_50 ?_
  refine sm_dload_n (pc := 51) dX8_valueOf_51 rfl 2 rfl ?_
  refine sm_dadd (pc := 52) dX8_valueOf_52 (fun v52 => ?_)
  refine sm_ddiv (pc := 53) dX8_valueOf_53 (fun v53 => ?_)
  refine sm_dstore (pc := 54) (lv' := [(4, .double v53), (7, .double t0), (0, .ref x0), (1, .double x1), (3, .int x3), (6, .int x6)]) dX8_valueOf_54 (by decide) rfl ?_
  refine sm_iinc (pc := 56) (x6 + (-1)) (lv' := [(6, .int (x6 + (-1))), (4, .double v53), (7, .double t0), (0, .ref x0), (1, .double x1), (3, .int x3)]) dX8_valueOf_56 5 rfl rfl (by decide) rfl ?_
  refine sm_goto 11 (pc := 59) dX8_valueOf_59 rfl ?_
  refine sm_sub [3, 4, 5, 1, 0] rfl ?_
  exact h11 x0 x1 x3 v53 (x6 + (-1)) S
set_option maxRecDepth 20000 in
set_option maxHeartbeats 4000000 in
theorem sB_X8_valueOf_11 (Z : ZT) (rec11 : (Nat → UInt64 → Int32 → UInt64 → Int32 → St → Option (UInt64 × St))) (h11 : ∀ (x0 : Nat) (x1 : UInt64) (x3 : Int32) (x4 : UInt64) (x6 : Int32)  (S : St), Sim eD Z rm_X8_valueOf RX8 cX8_valueOf 9 (some .double) 11 [(0, .ref x0), (1, .double x1), (3, .int x3), (4, .double x4), (6, .int x6)] [] S (rec11 x0 x1 x3 x4 x6 S)) (x0 : Nat) (x1 : UInt64) (x3 : Int32) (x4 : UInt64) (x6 : Int32)  (S : St) : Sim eD Z rm_X8_valueOf RX8 cX8_valueOf 9 (some .double) 11 [(0, .ref x0), (1, .double x1), (3, .int x3), (4, .double x4), (6, .int x6)] [] S (B_X8_valueOf_11 rec11 x0 x1 x3 x4 x6 S) := by
  unfold B_X8_valueOf_11
  refine sm_iload (pc := 11) dX8_valueOf_11 4 rfl ?_
  refine sm_if_lt 62 (pc := 13) dX8_valueOf_13 rfl ?_ ?_
  · refine sm_dload (pc := 62) dX8_valueOf_62 3 rfl ?_
    exact sm_retD (pc := 64) dX8_valueOf_64
  refine sm_iload_n (pc := 16) dX8_valueOf_16 rfl 2 rfl ?_
  refine sm_if_eq 36 (pc := 17) dX8_valueOf_17 rfl ?_ ?_
  · refine sm_aload_n (pc := 36) dX8_valueOf_36 rfl 0 rfl ?_
    refine sm_iload (pc := 37) dX8_valueOf_37 4 rfl ?_
    refine sm_callVL (pc := 39) [.int x6] (fun lq rq Sq hq => m_X8_flow Z lq x0 x6 S hq) dX8_valueOf_39 mi_X8_flow ml_RX8_228 ⟨Nat.le_of_ble_eq_true rfl, Nat.le_of_ble_eq_true rfl, rfl, rfl⟩ rfl (by decide) rfl (Nat.le_of_ble_eq_true rfl) rfl (fun r39 S39 => ?_)
    refine sm_l2d (pc := 42) dX8_valueOf_42 ?_
    refine sm_sub [0, 1, 2, 3, 4] rfl ?_
    exact sJ_X8_valueOf_43 Z rec11 h11 x0 x1 x3 x4 x6 (FP.l2d r39) S39
  refine sm_aload_n (pc := 20) dX8_valueOf_20 rfl 0 rfl ?_
  refine sm_iload (pc := 21) dX8_valueOf_21 4 rfl ?_
  refine sm_callVL (pc := 23) [.int x6] (fun lq rq Sq hq => m_X8_flow Z lq x0 x6 S hq) dX8_valueOf_23 mi_X8_flow ml_RX8_228 ⟨Nat.le_of_ble_eq_true rfl, Nat.le_of_ble_eq_true rfl, rfl, rfl⟩ rfl (by decide) rfl (Nat.le_of_ble_eq_true rfl) rfl (fun r23 S23 => ?_)
  refine sm_iload (pc := 26) dX8_valueOf_26 4 rfl ?_
  refine sm_iconst (pc := 28) (1 : Int32) dX8_valueOf_28 (by decide) ?_
  refine sm_iadd (pc := 29) dX8_valueOf_29 ?_
  refine sm_i2l (pc := 30) dX8_valueOf_30 ?_
  refine sm_lmul (pc := 31) dX8_valueOf_31 ?_
  refine sm_l2d (pc := 32) dX8_valueOf_32 ?_
  refine sm_goto 43 (pc := 33) dX8_valueOf_33 rfl ?_
  refine sm_sub [0, 1, 2, 3, 4] rfl ?_
  exact sJ_X8_valueOf_43 Z rec11 h11 x0 x1 x3 x4 x6 (FP.l2d (r23 * (Int32.toInt64 (x6 + (1 : Int32))))) S23
set_option maxRecDepth 20000 in
set_option maxHeartbeats 4000000 in
theorem sL_X8_valueOf_11 (Z : ZT)  (n : Nat) : ∀ (x0 : Nat) (x1 : UInt64) (x3 : Int32) (x4 : UInt64) (x6 : Int32)  (S : St), Sim eD Z rm_X8_valueOf RX8 cX8_valueOf 9 (some .double) 11 [(0, .ref x0), (1, .double x1), (3, .int x3), (4, .double x4), (6, .int x6)] [] S (L_X8_valueOf_11  n x0 x1 x3 x4 x6 S) := by
  induction n with
  | zero => intros; exact sm_none
  | succ n ih => intro x0 x1 x3 x4 x6 S; exact sB_X8_valueOf_11 Z  (L_X8_valueOf_11  n) ih x0 x1 x3 x4 x6 S
set_option maxRecDepth 20000 in
set_option maxHeartbeats 4000000 in
theorem s_X8_valueOf (Z : ZT) (c : Nat) (a1 : UInt64) (a2 : Int32) (S : St) : Sim eD Z rm_X8_valueOf RX8 cX8_valueOf 9 (some .double) 0 [(0, .ref c), (1, .double a1), (3, .int a2)] [] S (F_X8_valueOf c a1 a2 S) := by
  unfold F_X8_valueOf
  refine sm_dconst0 (pc := 0) dX8_valueOf_0 ?_
  refine sm_dstore (pc := 1) (lv' := [(4, .double FP.dconst0), (0, .ref c), (1, .double a1), (3, .int a2)]) dX8_valueOf_1 (by decide) rfl ?_
  refine sm_aload_n (pc := 3) dX8_valueOf_3 rfl 1 rfl ?_
  refine sm_getI (pc := 4) dX8_valueOf_4 fr_RX8_222 (by decide) rfl (fun v4 => ?_)
  refine sm_iconst (pc := 7) (1 : Int32) dX8_valueOf_7 (by decide) ?_
  refine sm_isub (pc := 8) dX8_valueOf_8 ?_
  refine sm_bdI (fun v9 => ?_)
  refine sm_istore (pc := 9) (lv' := [(6, .int v9), (4, .double FP.dconst0), (0, .ref c), (1, .double a1), (3, .int a2)]) dX8_valueOf_9 (by decide) rfl ?_
  refine sm_sub [2, 3, 4, 1, 0] rfl ?_
  exact sL_X8_valueOf_11 Z  6000 c a1 a2 FP.dconst0 v9 S
set_option maxRecDepth 20000 in
set_option maxHeartbeats 4000000 in
theorem m_X8_valueOf (Z : ZT) (l : Launch) (c : Nat) (a1 : UInt64) (a2 : Int32) (S : St) {r : UInt64} {S' : St} (h : F_X8_valueOf c a1 a2 S = some (r, S')) : MetX Z l yX8_valueOf cX8_valueOf 9 (some .double) rm_X8_valueOf [.ref c, .double a1, .int a2] S (eD r) S' := Sim.met (by decide +kernel) rfl (Nat.le_of_ble_eq_true rfl) (s_X8_valueOf Z c a1 a2 S) l h
set_option maxRecDepth 20000 in
set_option maxHeartbeats 4000000 in
theorem sJ_X8_isRate_19 (Z : ZT)   (t0 : Int32) (S : St) : Sim eI Z rm_X8_isRate RX8 cX8_isRate 2 (some .boolean) 19 [] [.int t0] S (J_X8_isRate_19  t0 S) := by
  unfold J_X8_isRate_19
  exact sm_retZ (pc := 19) dX8_isRate_19
set_option maxRecDepth 20000 in
set_option maxHeartbeats 4000000 in
theorem sJ_X8_isRate_18 (Z : ZT)    (S : St) : Sim eI Z rm_X8_isRate RX8 cX8_isRate 2 (some .boolean) 18 [] [] S (J_X8_isRate_18  S) := by
  unfold J_X8_isRate_18
  refine sm_iconst (pc := 18) (0 : Int32) dX8_isRate_18 (by decide) ?_
  refine sm_sub [] rfl ?_
  exact sJ_X8_isRate_19 Z  (0 : Int32) S
set_option maxRecDepth 20000 in
set_option maxHeartbeats 4000000 in
theorem s_X8_isRate (Z : ZT) (a1 : UInt64) (S : St) : Sim eI Z rm_X8_isRate RX8 cX8_isRate 2 (some .boolean) 0 [(0, .double a1)] [] S (F_X8_isRate a1 S) := by
  unfold F_X8_isRate
  refine sm_dload_n (pc := 0) dX8_isRate_0 rfl 0 rfl ?_
  refine sm_dconst0 (pc := 1) dX8_isRate_1 ?_
  refine sm_dcmp_lt 18 (pc := 2) dX8_isRate_2 dX8_isRate_3 rfl ?_ ?_
  · refine sm_sub [] rfl ?_
    exact sJ_X8_isRate_18 Z  S
  refine sm_dload_n (pc := 6) dX8_isRate_6 rfl 0 rfl ?_
  refine sm_ldc2d (pc := 7) (4621819117588971520 : UInt64) dX8_isRate_7 kc_RX8_234 ?_
  refine sm_dcmp_gt 18 (pc := 10) dX8_isRate_10 dX8_isRate_11 rfl ?_ ?_
  · refine sm_sub [] rfl ?_
    exact sJ_X8_isRate_18 Z  S
  refine sm_iconst (pc := 14) (1 : Int32) dX8_isRate_14 (by decide) ?_
  refine sm_goto 19 (pc := 15) dX8_isRate_15 rfl ?_
  refine sm_sub [] rfl ?_
  exact sJ_X8_isRate_19 Z  (1 : Int32) S
set_option maxRecDepth 20000 in
set_option maxHeartbeats 4000000 in
theorem m_X8_isRate (Z : ZT) (l : Launch) (a1 : UInt64) (S : St) {r : Int32} {S' : St} (h : F_X8_isRate a1 S = some (r, S')) : MetX Z l yX8_isRate cX8_isRate 2 (some .boolean) rm_X8_isRate [.double a1] S (eI r) S' := Sim.met (by decide +kernel) rfl (Nat.le_of_ble_eq_true rfl) (s_X8_isRate Z a1 S) l h
set_option maxRecDepth 20000 in
set_option maxHeartbeats 4000000 in
theorem sJ_Jxe99ae_isNaN_b9ae7_11 (Z : ZT)   (t0 : Int32) (S : St) : Sim eI Z rm_Jxe99ae_isNaN_b9ae7 RJxe99ae cJxe99ae_isNaN_b9ae7 2 (some .boolean) 11 [] [.int t0] S (J_Jxe99ae_isNaN_b9ae7_11  t0 S) := by
  unfold J_Jxe99ae_isNaN_b9ae7_11
  exact sm_retZ (pc := 11) dJxe99ae_isNaN_b9ae7_11
set_option maxRecDepth 20000 in
set_option maxHeartbeats 4000000 in
theorem s_Jxe99ae_isNaN_b9ae7 (Z : ZT) (a1 : UInt64) (S : St) : Sim eI Z rm_Jxe99ae_isNaN_b9ae7 RJxe99ae cJxe99ae_isNaN_b9ae7 2 (some .boolean) 0 [(0, .double a1)] [] S (F_Jxe99ae_isNaN_b9ae7 a1 S) := by
  unfold F_Jxe99ae_isNaN_b9ae7
  refine sm_dload_n (pc := 0) dJxe99ae_isNaN_b9ae7_0 rfl 0 rfl ?_
  refine sm_dload_n (pc := 1) dJxe99ae_isNaN_b9ae7_1 rfl 0 rfl ?_
  refine sm_dcmp_eq 10 (pc := 2) dJxe99ae_isNaN_b9ae7_2 dJxe99ae_isNaN_b9ae7_3 rfl ?_ ?_
  · refine sm_iconst (pc := 10) (0 : Int32) dJxe99ae_isNaN_b9ae7_10 (by decide) ?_
    refine sm_sub [] rfl ?_
    exact sJ_Jxe99ae_isNaN_b9ae7_11 Z  (0 : Int32) S
  refine sm_iconst (pc := 6) (1 : Int32) dJxe99ae_isNaN_b9ae7_6 (by decide) ?_
  refine sm_goto 11 (pc := 7) dJxe99ae_isNaN_b9ae7_7 rfl ?_
  refine sm_sub [] rfl ?_
  exact sJ_Jxe99ae_isNaN_b9ae7_11 Z  (1 : Int32) S
set_option maxRecDepth 20000 in
set_option maxHeartbeats 4000000 in
theorem m_Jxe99ae_isNaN_b9ae7 (Z : ZT) (l : Launch) (a1 : UInt64) (S : St) {r : Int32} {S' : St} (h : F_Jxe99ae_isNaN_b9ae7 a1 S = some (r, S')) : MetX Z l yJxe99ae_isNaN_b9ae7 cJxe99ae_isNaN_b9ae7 2 (some .boolean) rm_Jxe99ae_isNaN_b9ae7 [.double a1] S (eI r) S' := Sim.met (by decide +kernel) rfl (Nat.le_of_ble_eq_true rfl) (s_Jxe99ae_isNaN_b9ae7 Z a1 S) l h
set_option maxRecDepth 20000 in
set_option maxHeartbeats 4000000 in
theorem s_Jxe99ae_doubleToLongBits_ccdee (Z : ZT) (a1 : UInt64) (S : St) : Sim eL Z rm_Jxe99ae_doubleToLongBits_ccdee RJxe99ae cJxe99ae_doubleToLongBits_ccdee 2 (some .long) 0 [(0, .double a1)] [] S (F_Jxe99ae_doubleToLongBits_ccdee a1 S) := by
  unfold F_Jxe99ae_doubleToLongBits_ccdee
  refine sm_dload_n (pc := 0) dJxe99ae_doubleToLongBits_ccdee_0 rfl 0 rfl ?_
  refine sm_callSI (pc := 1) [.double a1] (fun lq rq Sq hq => m_Jxe99ae_isNaN_b9ae7 Z lq a1 S hq) dJxe99ae_doubleToLongBits_ccdee_1 mi_Jxe99ae_isNaN_b9ae7 ml_RJxe99ae_122 ⟨Nat.le_of_ble_eq_true rfl, Nat.le_of_ble_eq_true rfl, rfl, rfl⟩ rfl (Nat.le_of_ble_eq_true rfl) rfl (fun r1 S1 => ?_)
  refine sm_if_ne 12 (pc := 4) dJxe99ae_doubleToLongBits_ccdee_4 rfl ?_ ?_
  · refine sm_ldc2 (pc := 12) (9221120237041090560 : Int64) dJxe99ae_doubleToLongBits_ccdee_12 kc_RJxe99ae_137 ?_
    exact sm_retL (pc := 15) dJxe99ae_doubleToLongBits_ccdee_15
  refine sm_dload_n (pc := 7) dJxe99ae_doubleToLongBits_ccdee_7 rfl 0 rfl ?_
  refine sm_raw (pc := 8) dJxe99ae_doubleToLongBits_ccdee_8 ml_RJxe99ae_134 nt_doubleToRawLongBits ns_doubleToRawLongBits ni_doubleToRawLongBits ⟨Nat.le_of_ble_eq_true rfl, Nat.le_of_ble_eq_true rfl⟩ ?_
  exact sm_retL (pc := 11) dJxe99ae_doubleToLongBits_ccdee_11
set_option maxRecDepth 20000 in
set_option maxHeartbeats 4000000 in
theorem m_Jxe99ae_doubleToLongBits_ccdee (Z : ZT) (l : Launch) (a1 : UInt64) (S : St) {r : Int64} {S' : St} (h : F_Jxe99ae_doubleToLongBits_ccdee a1 S = some (r, S')) : MetX Z l yJxe99ae_doubleToLongBits_ccdee cJxe99ae_doubleToLongBits_ccdee 2 (some .long) rm_Jxe99ae_doubleToLongBits_ccdee [.double a1] S (eL r) S' := Sim.met (by decide +kernel) rfl (Nat.le_of_ble_eq_true rfl) (s_Jxe99ae_doubleToLongBits_ccdee Z a1 S) l h
set_option maxRecDepth 20000 in
set_option maxHeartbeats 4000000 in
theorem sJ_X8_value_22 (Z : ZT)    (S : St) : Sim eL Z rm_X8_value RX8 cX8_value 6 (some .long) 22 [] [] S (J_X8_value_22  S) := by
  unfold J_X8_value_22
  refine sm_lconst (pc := 22) (0 : Int64) dX8_value_22 (by decide) ?_
  exact sm_retL (pc := 23) dX8_value_23
set_option maxRecDepth 20000 in
set_option maxHeartbeats 4000000 in
theorem s_X8_value (Z : ZT) (c : Nat) (a1 : Int32) (a2 : Int64) (S : St) : Sim eL Z rm_X8_value RX8 cX8_value 6 (some .long) 0 [(0, .ref c), (1, .int a1), (2, .long a2)] [] S (F_X8_value c a1 a2 S) := by
  unfold F_X8_value
  refine sm_lload_n (pc := 0) dX8_value_0 rfl 2 rfl ?_
  refine sm_bits (pc := 1) dX8_value_1 ml_RX8_236 nt_longBitsToDouble ns_longBitsToDouble ni_longBitsToDouble ⟨Nat.le_of_ble_eq_true rfl, Nat.le_of_ble_eq_true rfl⟩ ?_
  refine sm_bdD (fun v4 => ?_)
  refine sm_dstore (pc := 4) (lv' := [(4, .double v4), (0, .ref c), (1, .int a1), (2, .long a2)]) dX8_value_4 (by decide) rfl ?_
  refine sm_aload_n (pc := 6) dX8_value_6 rfl 1 rfl ?_
  refine sm_iload_n (pc := 7) dX8_value_7 rfl 2 rfl ?_
  refine sm_callVI (pc := 8) [.int a1] (fun lq rq Sq hq => m_X8_isLoan Z lq c a1 S hq) dX8_value_8 mi_X8_isLoan ml_RX8_197 ⟨Nat.le_of_ble_eq_true rfl, Nat.le_of_ble_eq_true rfl, rfl, rfl⟩ rfl (by decide) rfl (Nat.le_of_ble_eq_true rfl) rfl (fun r8 S8 => ?_)
  refine sm_if_eq 22 (pc := 11) dX8_value_11 rfl ?_ ?_
  · refine sm_sub [] rfl ?_
    exact sJ_X8_value_22 Z  S8
  refine sm_dload (pc := 14) dX8_value_14 0 rfl ?_
  refine sm_callSI (pc := 16) [.double v4] (fun lq rq Sq hq => m_X8_isRate Z lq v4 S8 hq) dX8_value_16 mi_X8_isRate ml_RX8_242 ⟨Nat.le_of_ble_eq_true rfl, Nat.le_of_ble_eq_true rfl, rfl, rfl⟩ rfl (Nat.le_of_ble_eq_true rfl) rfl (fun r16 S16 => ?_)
  refine sm_if_ne 24 (pc := 19) dX8_value_19 rfl ?_ ?_
  · refine sm_aload_n (pc := 24) dX8_value_24 rfl 1 rfl ?_
    refine sm_iload_n (pc := 25) dX8_value_25 rfl 2 rfl ?_
    refine sm_callVV (pc := 26) [.int a1] (fun lq rq Sq hq => m_X8_comes Z lq c a1 S16 hq) dX8_value_26 mi_X8_comes ml_RX8_219 ⟨Nat.le_of_ble_eq_true rfl, Nat.le_of_ble_eq_true rfl, rfl, rfl⟩ rfl (by decide) rfl (Nat.le_of_ble_eq_true rfl) rfl (fun _ S26 => ?_)
    refine sm_aload_n (pc := 29) dX8_value_29 rfl 1 rfl ?_
    refine sm_dload (pc := 30) dX8_value_30 0 rfl ?_
    refine sm_iconst (pc := 32) (0 : Int32) dX8_value_32 (by decide) ?_
    refine sm_callVD (pc := 33) [.double v4, .int (0 : Int32)] (fun lq rq Sq hq => m_X8_valueOf Z lq c v4 (0 : Int32) S26 hq) dX8_value_33 mi_X8_valueOf ml_RX8_246 ⟨Nat.le_of_ble_eq_true rfl, Nat.le_of_ble_eq_true rfl, rfl, rfl⟩ rfl (by decide) rfl (Nat.le_of_ble_eq_true rfl) rfl (fun r33 S33 => ?_)
    refine sm_callSL (pc := 36) [.double r33] (fun lq rq Sq hq => m_Jxe99ae_doubleToLongBits_ccdee Z lq r33 S33 hq) dX8_value_36 mi_Jxe99ae_doubleToLongBits_ccdee ml_RX8_250 ⟨Nat.le_of_ble_eq_true rfl, Nat.le_of_ble_eq_true rfl, rfl, rfl⟩ rfl (Nat.le_of_ble_eq_true rfl) rfl (fun r36 S36 => ?_)
    exact sm_retL (pc := 39) dX8_value_39
  refine sm_sub [] rfl ?_
  exact sJ_X8_value_22 Z  S16
set_option maxRecDepth 20000 in
set_option maxHeartbeats 4000000 in
theorem m_X8_value (Z : ZT) (l : Launch) (c : Nat) (a1 : Int32) (a2 : Int64) (S : St) {r : Int64} {S' : St} (h : F_X8_value c a1 a2 S = some (r, S')) : MetX Z l yX8_value cX8_value 6 (some .long) rm_X8_value [.ref c, .int a1, .long a2] S (eL r) S' := Sim.met (by decide +kernel) rfl (Nat.le_of_ble_eq_true rfl) (s_X8_value Z c a1 a2 S) l h
set_option maxRecDepth 20000 in
set_option maxHeartbeats 4000000 in
theorem sJ_X8_yields_48 (Z : ZT) (rec8 : (Nat → Int64 → UInt64 → UInt64 → Int32 → St → Option (UInt64 × St))) (h8 : ∀ (x0 : Nat) (x1 : Int64) (x3 : UInt64) (x5 : UInt64) (x7 : Int32)  (S : St), Sim eD Z rm_X8_yields RX8 cX8_yields 10 (some .double) 8 [(0, .ref x0), (1, .long x1), (3, .double x3), (5, .double x5), (7, .int x7)] [] S (rec8 x0 x1 x3 x5 x7 S)) (x0 : Nat) (x1 : Int64) (x3 : UInt64) (x5 : UInt64) (x7 : Int32)  (S : St) : Sim eD Z rm_X8_yields RX8 cX8_yields 10 (some .double) 48 [(0, .ref x0), (1, .long x1), (3, .double x3), (5, .double x5), (7, .int x7)] [] S (J_X8_yields_48 rec8 x0 x1 x3 x5 x7 S) := by
  unfold J_X8_yields_48
  refine sm_iinc (pc := 48) (x7 + 1) (lv' := [(7, .int (x7 + 1)), (0, .ref x0), (1, .long x1), (3, .double x3), (5, .double x5)]) dX8_yields_48 4 rfl rfl (by decide) rfl ?_
  refine sm_goto 8 (pc := 51) dX8_yields_51 rfl ?_
  refine sm_sub [1, 2, 3, 4, 0] rfl ?_
  exact h8 x0 x1 x3 x5 (x7 + 1) S
set_option maxRecDepth 20000 in
set_option maxHeartbeats 4000000 in
theorem sB_X8_yields_8 (Z : ZT) (rec8 : (Nat → Int64 → UInt64 → UInt64 → Int32 → St → Option (UInt64 × St))) (h8 : ∀ (x0 : Nat) (x1 : Int64) (x3 : UInt64) (x5 : UInt64) (x7 : Int32)  (S : St), Sim eD Z rm_X8_yields RX8 cX8_yields 10 (some .double) 8 [(0, .ref x0), (1, .long x1), (3, .double x3), (5, .double x5), (7, .int x7)] [] S (rec8 x0 x1 x3 x5 x7 S)) (x0 : Nat) (x1 : Int64) (x3 : UInt64) (x5 : UInt64) (x7 : Int32)  (S : St) : Sim eD Z rm_X8_yields RX8 cX8_yields 10 (some .double) 8 [(0, .ref x0), (1, .long x1), (3, .double x3), (5, .double x5), (7, .int x7)] [] S (B_X8_yields_8 rec8 x0 x1 x3 x5 x7 S) := by
  unfold B_X8_yields_8
  refine sm_iload (pc := 8) dX8_yields_8 4 rfl ?_
  refine sm_bipush (pc := 10) (50 : Int32) dX8_yields_10 (by decide) ?_
  refine sm_icmp_ge 54 (pc := 12) dX8_yields_12 rfl ?_ ?_
  · refine sm_dload_n (pc := 54) dX8_yields_54 rfl 2 rfl ?_
    exact sm_retD (pc := 55) dX8_yields_55
  refine sm_dload_n (pc := 15) dX8_yields_15 rfl 2 rfl ?_
  refine sm_dload (pc := 16) dX8_yields_16 3 rfl ?_
  refine sm_dadd (pc := 18) dX8_yields_18 (fun v18 => ?_)
  refine sm_ldc2d (pc := 19) (4611686018427387904 : UInt64) dX8_yields_19 kc_RX8_254 ?_
  refine sm_ddiv (pc := 22) dX8_yields_22 (fun v22 => ?_)
  refine sm_dstore (pc := 23) (lv' := [(8, .double v22), (0, .ref x0), (1, .long x1), (3, .double x3), (5, .double x5), (7, .int x7)]) dX8_yields_23 (by decide) rfl ?_
  refine sm_aload_n (pc := 25) dX8_yields_25 rfl 1 rfl ?_
  refine sm_dload (pc := 26) dX8_yields_26 0 rfl ?_
  refine sm_iconst (pc := 28) (0 : Int32) dX8_yields_28 (by decide) ?_
  refine sm_callVD (pc := 29) [.double v22, .int (0 : Int32)] (fun lq rq Sq hq => m_X8_valueOf Z lq x0 v22 (0 : Int32) S hq) dX8_yields_29 mi_X8_valueOf ml_RX8_246 ⟨Nat.le_of_ble_eq_true rfl, Nat.le_of_ble_eq_true rfl, rfl, rfl⟩ rfl (by decide) rfl (Nat.le_of_ble_eq_true rfl) rfl (fun r29 S29 => ?_)
  refine sm_lload_n (pc := 32) dX8_yields_32 rfl 2 rfl ?_
  refine sm_l2d (pc := 33) dX8_yields_33 ?_
  refine sm_dcmp_le 44 (pc := 34) dX8_yields_34 dX8_yields_35 rfl ?_ ?_
  · refine sm_dload (pc := 44) dX8_yields_44 0 rfl ?_
    refine sm_dstore (pc := 46) (lv' := [(5, .double v22), (8, .double v22), (0, .ref x0), (1, .long x1), (3, .double x3), (7, .int x7)]) dX8_yields_46 (by decide) rfl ?_
    refine sm_sub [2, 3, 4, 0, 5] rfl ?_
    exact sJ_X8_yields_48 Z rec8 h8 x0 x1 x3 v22 x7 S29
  refine sm_dload (pc := 38) dX8_yields_38 0 rfl ?_
  refine sm_dstore_n (pc := 40) (lv' := [(3, .double v22), (8, .double v22), (0, .ref x0), (1, .long x1), (5, .double x5), (7, .int x7)]) dX8_yields_40 rfl (by decide) rfl ?_
  refine sm_goto 48 (pc := 41) dX8_yields_41 rfl ?_
  refine sm_sub [2, 3, 0, 4, 5] rfl ?_
  exact sJ_X8_yields_48 Z rec8 h8 x0 x1 v22 x5 x7 S29
set_option maxRecDepth 20000 in
set_option maxHeartbeats 4000000 in
theorem sL_X8_yields_8 (Z : ZT)  (n : Nat) : ∀ (x0 : Nat) (x1 : Int64) (x3 : UInt64) (x5 : UInt64) (x7 : Int32)  (S : St), Sim eD Z rm_X8_yields RX8 cX8_yields 10 (some .double) 8 [(0, .ref x0), (1, .long x1), (3, .double x3), (5, .double x5), (7, .int x7)] [] S (L_X8_yields_8  n x0 x1 x3 x5 x7 S) := by
  induction n with
  | zero => intros; exact sm_none
  | succ n ih => intro x0 x1 x3 x5 x7 S; exact sB_X8_yields_8 Z  (L_X8_yields_8  n) ih x0 x1 x3 x5 x7 S
set_option maxRecDepth 20000 in
set_option maxHeartbeats 4000000 in
theorem s_X8_yields (Z : ZT) (c : Nat) (a1 : Int64) (S : St) : Sim eD Z rm_X8_yields RX8 cX8_yields 10 (some .double) 0 [(0, .ref c), (1, .long a1)] [] S (F_X8_yields c a1 S) := by
  unfold F_X8_yields
  refine sm_dconst0 (pc := 0) dX8_yields_0 ?_
  refine sm_dstore_n (pc := 1) (lv' := [(3, .double FP.dconst0), (0, .ref c), (1, .long a1)]) dX8_yields_1 rfl (by decide) rfl ?_
  refine sm_dconst1 (pc := 2) dX8_yields_2 ?_
  refine sm_dstore (pc := 3) (lv' := [(5, .double FP.dconst1), (3, .double FP.dconst0), (0, .ref c), (1, .long a1)]) dX8_yields_3 (by decide) rfl ?_
  refine sm_iconst (pc := 5) (0 : Int32) dX8_yields_5 (by decide) ?_
  refine sm_istore (pc := 6) (lv' := [(7, .int (0 : Int32)), (5, .double FP.dconst1), (3, .double FP.dconst0), (0, .ref c), (1, .long a1)]) dX8_yields_6 (by decide) rfl ?_
  refine sm_sub [3, 4, 2, 1, 0] rfl ?_
  exact sL_X8_yields_8 Z  6000 c a1 FP.dconst0 FP.dconst1 (0 : Int32) S
set_option maxRecDepth 20000 in
set_option maxHeartbeats 4000000 in
theorem m_X8_yields (Z : ZT) (l : Launch) (c : Nat) (a1 : Int64) (S : St) {r : UInt64} {S' : St} (h : F_X8_yields c a1 S = some (r, S')) : MetX Z l yX8_yields cX8_yields 10 (some .double) rm_X8_yields [.ref c, .long a1] S (eD r) S' := Sim.met (by decide +kernel) rfl (Nat.le_of_ble_eq_true rfl) (s_X8_yields Z c a1 S) l h
set_option maxRecDepth 20000 in
set_option maxHeartbeats 4000000 in
theorem sJ_X8_yieldOf_14 (Z : ZT)    (S : St) : Sim eL Z rm_X8_yieldOf RX8 cX8_yieldOf 4 (some .long) 14 [] [] S (J_X8_yieldOf_14  S) := by
  unfold J_X8_yieldOf_14
  refine sm_ldc2 (pc := 14) (-1 : Int64) dX8_yieldOf_14 kc_RX8_134 ?_
  exact sm_retL (pc := 17) dX8_yieldOf_17
set_option maxRecDepth 20000 in
set_option maxHeartbeats 4000000 in
theorem s_X8_yieldOf (Z : ZT) (c : Nat) (a1 : Int32) (a2 : Int64) (S : St) : Sim eL Z rm_X8_yieldOf RX8 cX8_yieldOf 4 (some .long) 0 [(0, .ref c), (1, .int a1), (2, .long a2)] [] S (F_X8_yieldOf c a1 a2 S) := by
  unfold F_X8_yieldOf
  refine sm_aload_n (pc := 0) dX8_yieldOf_0 rfl 0 rfl ?_
  refine sm_iload_n (pc := 1) dX8_yieldOf_1 rfl 1 rfl ?_
  refine sm_callVI (pc := 2) [.int a1] (fun lq rq Sq hq => m_X8_isLoan Z lq c a1 S hq) dX8_yieldOf_2 mi_X8_isLoan ml_RX8_197 ⟨Nat.le_of_ble_eq_true rfl, Nat.le_of_ble_eq_true rfl, rfl, rfl⟩ rfl (by decide) rfl (Nat.le_of_ble_eq_true rfl) rfl (fun r2 S2 => ?_)
  refine sm_if_eq 14 (pc := 5) dX8_yieldOf_5 rfl ?_ ?_
  · refine sm_sub [] rfl ?_
    exact sJ_X8_yieldOf_14 Z  S2
  refine sm_lload_n (pc := 8) dX8_yieldOf_8 rfl 2 rfl ?_
  refine sm_lconst (pc := 9) (1 : Int64) dX8_yieldOf_9 (by decide) ?_
  refine sm_lcmp_ge 18 (pc := 10) dX8_yieldOf_10 dX8_yieldOf_11 rfl ?_ ?_
  · refine sm_aload_n (pc := 18) dX8_yieldOf_18 rfl 0 rfl ?_
    refine sm_iload_n (pc := 19) dX8_yieldOf_19 rfl 1 rfl ?_
    refine sm_callVV (pc := 20) [.int a1] (fun lq rq Sq hq => m_X8_comes Z lq c a1 S2 hq) dX8_yieldOf_20 mi_X8_comes ml_RX8_219 ⟨Nat.le_of_ble_eq_true rfl, Nat.le_of_ble_eq_true rfl, rfl, rfl⟩ rfl (by decide) rfl (Nat.le_of_ble_eq_true rfl) rfl (fun _ S20 => ?_)
    refine sm_aload_n (pc := 23) dX8_yieldOf_23 rfl 0 rfl ?_
    refine sm_lload_n (pc := 24) dX8_yieldOf_24 rfl 2 rfl ?_
    refine sm_callVD (pc := 25) [.long a2] (fun lq rq Sq hq => m_X8_yields Z lq c a2 S20 hq) dX8_yieldOf_25 mi_X8_yields ml_RX8_256 ⟨Nat.le_of_ble_eq_true rfl, Nat.le_of_ble_eq_true rfl, rfl, rfl⟩ rfl (by decide) rfl (Nat.le_of_ble_eq_true rfl) rfl (fun r25 S25 => ?_)
    refine sm_callSL (pc := 28) [.double r25] (fun lq rq Sq hq => m_Jxe99ae_doubleToLongBits_ccdee Z lq r25 S25 hq) dX8_yieldOf_28 mi_Jxe99ae_doubleToLongBits_ccdee ml_RX8_250 ⟨Nat.le_of_ble_eq_true rfl, Nat.le_of_ble_eq_true rfl, rfl, rfl⟩ rfl (Nat.le_of_ble_eq_true rfl) rfl (fun r28 S28 => ?_)
    exact sm_retL (pc := 31) dX8_yieldOf_31
  refine sm_sub [] rfl ?_
  exact sJ_X8_yieldOf_14 Z  S2
set_option maxRecDepth 20000 in
set_option maxHeartbeats 4000000 in
theorem m_X8_yieldOf (Z : ZT) (l : Launch) (c : Nat) (a1 : Int32) (a2 : Int64) (S : St) {r : Int64} {S' : St} (h : F_X8_yieldOf c a1 a2 S = some (r, S')) : MetX Z l yX8_yieldOf cX8_yieldOf 4 (some .long) rm_X8_yieldOf [.ref c, .int a1, .long a2] S (eL r) S' := Sim.met (by decide +kernel) rfl (Nat.le_of_ble_eq_true rfl) (s_X8_yieldOf Z c a1 a2 S) l h
set_option maxRecDepth 20000 in
set_option maxHeartbeats 4000000 in
theorem sJ_Jxf58ca_isNaN_12338_11 (Z : ZT)   (t0 : Int32) (S : St) : Sim eI Z rm_Jxf58ca_isNaN_12338 RJxf58ca cJxf58ca_isNaN_12338 1 (some .boolean) 11 [] [.int t0] S (J_Jxf58ca_isNaN_12338_11  t0 S) := by
  unfold J_Jxf58ca_isNaN_12338_11
  exact sm_retZ (pc := 11) dJxf58ca_isNaN_12338_11
set_option maxRecDepth 20000 in
set_option maxHeartbeats 4000000 in
theorem s_Jxf58ca_isNaN_12338 (Z : ZT) (a1 : UInt32) (S : St) : Sim eI Z rm_Jxf58ca_isNaN_12338 RJxf58ca cJxf58ca_isNaN_12338 1 (some .boolean) 0 [(0, .float a1)] [] S (F_Jxf58ca_isNaN_12338 a1 S) := by
  unfold F_Jxf58ca_isNaN_12338
  refine sm_fload_n (pc := 0) dJxf58ca_isNaN_12338_0 rfl 0 rfl ?_
  refine sm_fload_n (pc := 1) dJxf58ca_isNaN_12338_1 rfl 0 rfl ?_
  refine sm_fcmp_eq 10 (pc := 2) dJxf58ca_isNaN_12338_2 dJxf58ca_isNaN_12338_3 rfl ?_ ?_
  · refine sm_iconst (pc := 10) (0 : Int32) dJxf58ca_isNaN_12338_10 (by decide) ?_
    refine sm_sub [] rfl ?_
    exact sJ_Jxf58ca_isNaN_12338_11 Z  (0 : Int32) S
  refine sm_iconst (pc := 6) (1 : Int32) dJxf58ca_isNaN_12338_6 (by decide) ?_
  refine sm_goto 11 (pc := 7) dJxf58ca_isNaN_12338_7 rfl ?_
  refine sm_sub [] rfl ?_
  exact sJ_Jxf58ca_isNaN_12338_11 Z  (1 : Int32) S
set_option maxRecDepth 20000 in
set_option maxHeartbeats 4000000 in
theorem m_Jxf58ca_isNaN_12338 (Z : ZT) (l : Launch) (a1 : UInt32) (S : St) {r : Int32} {S' : St} (h : F_Jxf58ca_isNaN_12338 a1 S = some (r, S')) : MetX Z l yJxf58ca_isNaN_12338 cJxf58ca_isNaN_12338 1 (some .boolean) rm_Jxf58ca_isNaN_12338 [.float a1] S (eI r) S' := Sim.met (by decide +kernel) rfl (Nat.le_of_ble_eq_true rfl) (s_Jxf58ca_isNaN_12338 Z a1 S) l h
set_option maxRecDepth 20000 in
set_option maxHeartbeats 4000000 in
theorem s_Jxf58ca_floatToIntBits_5c35a (Z : ZT) (a1 : UInt32) (S : St) : Sim eI Z rm_Jxf58ca_floatToIntBits_5c35a RJxf58ca cJxf58ca_floatToIntBits_5c35a 1 (some .int) 0 [(0, .float a1)] [] S (F_Jxf58ca_floatToIntBits_5c35a a1 S) := by
  unfold F_Jxf58ca_floatToIntBits_5c35a
  refine sm_fload_n (pc := 0) dJxf58ca_floatToIntBits_5c35a_0 rfl 0 rfl ?_
  refine sm_callSI (pc := 1) [.float a1] (fun lq rq Sq hq => m_Jxf58ca_isNaN_12338 Z lq a1 S hq) dJxf58ca_floatToIntBits_5c35a_1 mi_Jxf58ca_isNaN_12338 ml_RJxf58ca_59 ⟨Nat.le_of_ble_eq_true rfl, Nat.le_of_ble_eq_true rfl, rfl, rfl⟩ rfl (Nat.le_of_ble_eq_true rfl) rfl (fun r1 S1 => ?_)
  refine sm_if_ne 12 (pc := 4) dJxf58ca_floatToIntBits_5c35a_4 rfl ?_ ?_
  · refine sm_ldc (pc := 12) (2143289344 : Int32) dJxf58ca_floatToIntBits_5c35a_12 kc_RJxf58ca_77 ?_
    exact sm_retI (pc := 14) dJxf58ca_floatToIntBits_5c35a_14
  refine sm_fload_n (pc := 7) dJxf58ca_floatToIntBits_5c35a_7 rfl 0 rfl ?_
  refine sm_rawf (pc := 8) dJxf58ca_floatToIntBits_5c35a_8 ml_RJxf58ca_74 nt_floatToRawIntBits ns_floatToRawIntBits ni_floatToRawIntBits ⟨Nat.le_of_ble_eq_true rfl, Nat.le_of_ble_eq_true rfl⟩ ?_
  exact sm_retI (pc := 11) dJxf58ca_floatToIntBits_5c35a_11
set_option maxRecDepth 20000 in
set_option maxHeartbeats 4000000 in
theorem m_Jxf58ca_floatToIntBits_5c35a (Z : ZT) (l : Launch) (a1 : UInt32) (S : St) {r : Int32} {S' : St} (h : F_Jxf58ca_floatToIntBits_5c35a a1 S = some (r, S')) : MetX Z l yJxf58ca_floatToIntBits_5c35a cJxf58ca_floatToIntBits_5c35a 1 (some .int) rm_Jxf58ca_floatToIntBits_5c35a [.float a1] S (eI r) S' := Sim.met (by decide +kernel) rfl (Nat.le_of_ble_eq_true rfl) (s_Jxf58ca_floatToIntBits_5c35a Z a1 S) l h
set_option maxRecDepth 20000 in
set_option maxHeartbeats 4000000 in
theorem sJ_X8_near_14 (Z : ZT)    (S : St) : Sim eI Z rm_X8_near RX8 cX8_near 4 (some .int) 14 [] [] S (J_X8_near_14  S) := by
  unfold J_X8_near_14
  refine sm_iconst (pc := 14) (-1 : Int32) dX8_near_14 (by decide) ?_
  exact sm_retI (pc := 15) dX8_near_15
set_option maxRecDepth 20000 in
set_option maxHeartbeats 4000000 in
theorem s_X8_near (Z : ZT) (c : Nat) (a1 : Int32) (a2 : Int64) (S : St) : Sim eI Z rm_X8_near RX8 cX8_near 4 (some .int) 0 [(0, .ref c), (1, .int a1), (2, .long a2)] [] S (F_X8_near c a1 a2 S) := by
  unfold F_X8_near
  refine sm_aload_n (pc := 0) dX8_near_0 rfl 0 rfl ?_
  refine sm_iload_n (pc := 1) dX8_near_1 rfl 1 rfl ?_
  refine sm_callVI (pc := 2) [.int a1] (fun lq rq Sq hq => m_X8_isLoan Z lq c a1 S hq) dX8_near_2 mi_X8_isLoan ml_RX8_197 ⟨Nat.le_of_ble_eq_true rfl, Nat.le_of_ble_eq_true rfl, rfl, rfl⟩ rfl (by decide) rfl (Nat.le_of_ble_eq_true rfl) rfl (fun r2 S2 => ?_)
  refine sm_if_eq 14 (pc := 5) dX8_near_5 rfl ?_ ?_
  · refine sm_sub [] rfl ?_
    exact sJ_X8_near_14 Z  S2
  refine sm_lload_n (pc := 8) dX8_near_8 rfl 2 rfl ?_
  refine sm_lconst (pc := 9) (1 : Int64) dX8_near_9 (by decide) ?_
  refine sm_lcmp_ge 16 (pc := 10) dX8_near_10 dX8_near_11 rfl ?_ ?_
  · refine sm_aload_n (pc := 16) dX8_near_16 rfl 0 rfl ?_
    refine sm_iload_n (pc := 17) dX8_near_17 rfl 1 rfl ?_
    refine sm_callVV (pc := 18) [.int a1] (fun lq rq Sq hq => m_X8_comes Z lq c a1 S2 hq) dX8_near_18 mi_X8_comes ml_RX8_219 ⟨Nat.le_of_ble_eq_true rfl, Nat.le_of_ble_eq_true rfl, rfl, rfl⟩ rfl (by decide) rfl (Nat.le_of_ble_eq_true rfl) rfl (fun _ S18 => ?_)
    refine sm_aload_n (pc := 21) dX8_near_21 rfl 0 rfl ?_
    refine sm_lload_n (pc := 22) dX8_near_22 rfl 2 rfl ?_
    refine sm_callVD (pc := 23) [.long a2] (fun lq rq Sq hq => m_X8_yields Z lq c a2 S18 hq) dX8_near_23 mi_X8_yields ml_RX8_256 ⟨Nat.le_of_ble_eq_true rfl, Nat.le_of_ble_eq_true rfl, rfl, rfl⟩ rfl (by decide) rfl (Nat.le_of_ble_eq_true rfl) rfl (fun r23 S23 => ?_)
    refine sm_d2f (pc := 26) dX8_near_26 (fun v26 => ?_)
    refine sm_callSI (pc := 27) [.float v26] (fun lq rq Sq hq => m_Jxf58ca_floatToIntBits_5c35a Z lq v26 S23 hq) dX8_near_27 mi_Jxf58ca_floatToIntBits_5c35a ml_RX8_259 ⟨Nat.le_of_ble_eq_true rfl, Nat.le_of_ble_eq_true rfl, rfl, rfl⟩ rfl (Nat.le_of_ble_eq_true rfl) rfl (fun r27 S27 => ?_)
    exact sm_retI (pc := 30) dX8_near_30
  refine sm_sub [] rfl ?_
  exact sJ_X8_near_14 Z  S2
set_option maxRecDepth 20000 in
set_option maxHeartbeats 4000000 in
theorem m_X8_near (Z : ZT) (l : Launch) (c : Nat) (a1 : Int32) (a2 : Int64) (S : St) {r : Int32} {S' : St} (h : F_X8_near c a1 a2 S = some (r, S')) : MetX Z l yX8_near cX8_near 4 (some .int) rm_X8_near [.ref c, .int a1, .long a2] S (eI r) S' := Sim.met (by decide +kernel) rfl (Nat.le_of_ble_eq_true rfl) (s_X8_near Z c a1 a2 S) l h
set_option maxRecDepth 20000 in
set_option maxHeartbeats 4000000 in
theorem sJ_X8_duration_22 (Z : ZT)    (S : St) : Sim eL Z rm_X8_duration RX8 cX8_duration 8 (some .long) 22 [] [] S (J_X8_duration_22  S) := by
  unfold J_X8_duration_22
  refine sm_lconst (pc := 22) (0 : Int64) dX8_duration_22 (by decide) ?_
  exact sm_retL (pc := 23) dX8_duration_23
set_option maxRecDepth 20000 in
set_option maxHeartbeats 4000000 in
theorem sJ_X8_duration_59 (Z : ZT)   (t0 : UInt64) (S : St) : Sim eL Z rm_X8_duration RX8 cX8_duration 8 (some .long) 59 [] [.double t0] S (J_X8_duration_59  t0 S) := by
  unfold J_X8_duration_59
  refine sm_callSL (pc := 59) [.double t0] (fun lq rq Sq hq => m_Jxe99ae_doubleToLongBits_ccdee Z lq t0 S hq) dX8_duration_59 mi_Jxe99ae_doubleToLongBits_ccdee ml_RX8_250 ⟨Nat.le_of_ble_eq_true rfl, Nat.le_of_ble_eq_true rfl, rfl, rfl⟩ rfl (Nat.le_of_ble_eq_true rfl) rfl (fun r59 S59 => ?_)
  exact sm_retL (pc := 62) dX8_duration_62
set_option maxRecDepth 20000 in
set_option maxHeartbeats 4000000 in
theorem s_X8_duration (Z : ZT) (c : Nat) (a1 : Int32) (a2 : Int64) (S : St) : Sim eL Z rm_X8_duration RX8 cX8_duration 8 (some .long) 0 [(0, .ref c), (1, .int a1), (2, .long a2)] [] S (F_X8_duration c a1 a2 S) := by
  unfold F_X8_duration
  refine sm_lload_n (pc := 0) dX8_duration_0 rfl 2 rfl ?_
  refine sm_bits (pc := 1) dX8_duration_1 ml_RX8_236 nt_longBitsToDouble ns_longBitsToDouble ni_longBitsToDouble ⟨Nat.le_of_ble_eq_true rfl, Nat.le_of_ble_eq_true rfl⟩ ?_
  refine sm_bdD (fun v4 => ?_)
  refine sm_dstore (pc := 4) (lv' := [(4, .double v4), (0, .ref c), (1, .int a1), (2, .long a2)]) dX8_duration_4 (by decide) rfl ?_
  refine sm_aload_n (pc := 6) dX8_duration_6 rfl 1 rfl ?_
  refine sm_iload_n (pc := 7) dX8_duration_7 rfl 2 rfl ?_
  refine sm_callVI (pc := 8) [.int a1] (fun lq rq Sq hq => m_X8_isLoan Z lq c a1 S hq) dX8_duration_8 mi_X8_isLoan ml_RX8_197 ⟨Nat.le_of_ble_eq_true rfl, Nat.le_of_ble_eq_true rfl, rfl, rfl⟩ rfl (by decide) rfl (Nat.le_of_ble_eq_true rfl) rfl (fun r8 S8 => ?_)
  refine sm_if_eq 22 (pc := 11) dX8_duration_11 rfl ?_ ?_
  · refine sm_sub [] rfl ?_
    exact sJ_X8_duration_22 Z  S8
  refine sm_dload (pc := 14) dX8_duration_14 0 rfl ?_
  refine sm_callSI (pc := 16) [.double v4] (fun lq rq Sq hq => m_X8_isRate Z lq v4 S8 hq) dX8_duration_16 mi_X8_isRate ml_RX8_242 ⟨Nat.le_of_ble_eq_true rfl, Nat.le_of_ble_eq_true rfl, rfl, rfl⟩ rfl (Nat.le_of_ble_eq_true rfl) rfl (fun r16 S16 => ?_)
  refine sm_if_ne 24 (pc := 19) dX8_duration_19 rfl ?_ ?_
  · refine sm_aload_n (pc := 24) dX8_duration_24 rfl 1 rfl ?_
    refine sm_iload_n (pc := 25) dX8_duration_25 rfl 2 rfl ?_
    refine sm_callVV (pc := 26) [.int a1] (fun lq rq Sq hq => m_X8_comes Z lq c a1 S16 hq) dX8_duration_26 mi_X8_comes ml_RX8_219 ⟨Nat.le_of_ble_eq_true rfl, Nat.le_of_ble_eq_true rfl, rfl, rfl⟩ rfl (by decide) rfl (Nat.le_of_ble_eq_true rfl) rfl (fun _ S26 => ?_)
    refine sm_aload_n (pc := 29) dX8_duration_29 rfl 1 rfl ?_
    refine sm_dload (pc := 30) dX8_duration_30 0 rfl ?_
    refine sm_iconst (pc := 32) (0 : Int32) dX8_duration_32 (by decide) ?_
    refine sm_callVD (pc := 33) [.double v4, .int (0 : Int32)] (fun lq rq Sq hq => m_X8_valueOf Z lq c v4 (0 : Int32) S26 hq) dX8_duration_33 mi_X8_valueOf ml_RX8_246 ⟨Nat.le_of_ble_eq_true rfl, Nat.le_of_ble_eq_true rfl, rfl, rfl⟩ rfl (by decide) rfl (Nat.le_of_ble_eq_true rfl) rfl (fun r33 S33 => ?_)
    refine sm_dstore (pc := 36) (lv' := [(6, .double r33), (4, .double v4), (0, .ref c), (1, .int a1), (2, .long a2)]) dX8_duration_36 (by decide) rfl ?_
    refine sm_dload (pc := 38) dX8_duration_38 0 rfl ?_
    refine sm_dconst0 (pc := 40) dX8_duration_40 ?_
    refine sm_dcmp_ne 49 (pc := 41) dX8_duration_41 dX8_duration_42 rfl ?_ ?_
    · refine sm_aload_n (pc := 49) dX8_duration_49 rfl 2 rfl ?_
      refine sm_dload (pc := 50) dX8_duration_50 1 rfl ?_
      refine sm_iconst (pc := 52) (1 : Int32) dX8_duration_52 (by decide) ?_
      refine sm_callVD (pc := 53) [.double v4, .int (1 : Int32)] (fun lq rq Sq hq => m_X8_valueOf Z lq c v4 (1 : Int32) S33 hq) dX8_duration_53 mi_X8_valueOf ml_RX8_246 ⟨Nat.le_of_ble_eq_true rfl, Nat.le_of_ble_eq_true rfl, rfl, rfl⟩ rfl (by decide) rfl (Nat.le_of_ble_eq_true rfl) rfl (fun r53 S53 => ?_)
      refine sm_dload (pc := 56) dX8_duration_56 0 rfl ?_
      refine sm_ddiv (pc := 58) dX8_duration_58 (fun v58 => ?_)
      refine sm_sub [] rfl ?_
      exact sJ_X8_duration_59 Z  v58 S53
    refine sm_dconst0 (pc := 45) dX8_duration_45 ?_
    refine sm_goto 59 (pc := 46) dX8_duration_46 rfl ?_
    refine sm_sub [] rfl ?_
    exact sJ_X8_duration_59 Z  FP.dconst0 S33
  refine sm_sub [] rfl ?_
  exact sJ_X8_duration_22 Z  S16
set_option maxRecDepth 20000 in
set_option maxHeartbeats 4000000 in
theorem m_X8_duration (Z : ZT) (l : Launch) (c : Nat) (a1 : Int32) (a2 : Int64) (S : St) {r : Int64} {S' : St} (h : F_X8_duration c a1 a2 S = some (r, S')) : MetX Z l yX8_duration cX8_duration 8 (some .long) rm_X8_duration [.ref c, .int a1, .long a2] S (eL r) S' := Sim.met (by decide +kernel) rfl (Nat.le_of_ble_eq_true rfl) (s_X8_duration Z c a1 a2 S) l h
set_option maxRecDepth 20000 in
set_option maxHeartbeats 4000000 in
theorem sJ_X8_behind_66 (Z : ZT) (rec10 : (Nat → Int32 → Int32 → Int32 → St → Option (Int32 × St))) (h10 : ∀ (x0 : Nat) (x1 : Int32) (x2 : Int32) (x3 : Int32)  (S : St), Sim eI Z rm_X8_behind RX8 cX8_behind 4 (some .int) 10 [(0, .ref x0), (1, .int x1), (2, .int x2), (3, .int x3)] [] S (rec10 x0 x1 x2 x3 S)) (x0 : Nat) (x1 : Int32) (x3 : Int32) (t0 : Int32) (t1 : Int32) (S : St) : Sim eI Z rm_X8_behind RX8 cX8_behind 4 (some .int) 66 [(0, .ref x0), (1, .int x1), (3, .int x3)] [.int t0, .int t1] S (J_X8_behind_66 rec10 x0 x1 x3 t0 t1 S) := by
  unfold J_X8_behind_66
  refine sm_ior (pc := 66) dX8_behind_66 ?_
  refine sm_bdI (fun v67 => ?_)
  refine sm_istore_n (pc := 67) (lv' := [(2, .int v67), (0, .ref x0), (1, .int x1), (3, .int x3)]) dX8_behind_67 rfl (by decide) rfl ?_
  refine sm_iinc (pc := 68) (x3 + 1) (lv' := [(3, .int (x3 + 1)), (2, .int v67), (0, .ref x0), (1, .int x1)]) dX8_behind_68 3 rfl rfl (by decide) rfl ?_
  refine sm_goto 10 (pc := 71) dX8_behind_71 rfl ?_
  refine sm_sub [2, 3, 1, 0] rfl ?_
  exact h10 x0 x1 v67 (x3 + 1) S
set_option maxRecDepth 20000 in
set_option maxHeartbeats 4000000 in
theorem sJ_X8_behind_65 (Z : ZT) (rec10 : (Nat → Int32 → Int32 → Int32 → St → Option (Int32 × St))) (h10 : ∀ (x0 : Nat) (x1 : Int32) (x2 : Int32) (x3 : Int32)  (S : St), Sim eI Z rm_X8_behind RX8 cX8_behind 4 (some .int) 10 [(0, .ref x0), (1, .int x1), (2, .int x2), (3, .int x3)] [] S (rec10 x0 x1 x2 x3 S)) (x0 : Nat) (x1 : Int32) (x3 : Int32) (t0 : Int32) (S : St) : Sim eI Z rm_X8_behind RX8 cX8_behind 4 (some .int) 65 [(0, .ref x0), (1, .int x1), (3, .int x3)] [.int t0] S (J_X8_behind_65 rec10 x0 x1 x3 t0 S) := by
  unfold J_X8_behind_65
  refine sm_iconst (pc := 65) (0 : Int32) dX8_behind_65 (by decide) ?_
  refine sm_sub [0, 1, 2] rfl ?_
  exact sJ_X8_behind_66 Z rec10 h10 x0 x1 x3 (0 : Int32) t0 S
set_option maxRecDepth 20000 in
set_option maxHeartbeats 4000000 in
theorem sB_X8_behind_10 (Z : ZT) (rec10 : (Nat → Int32 → Int32 → Int32 → St → Option (Int32 × St))) (h10 : ∀ (x0 : Nat) (x1 : Int32) (x2 : Int32) (x3 : Int32)  (S : St), Sim eI Z rm_X8_behind RX8 cX8_behind 4 (some .int) 10 [(0, .ref x0), (1, .int x1), (2, .int x2), (3, .int x3)] [] S (rec10 x0 x1 x2 x3 S)) (x0 : Nat) (x1 : Int32) (x2 : Int32) (x3 : Int32)  (S : St) : Sim eI Z rm_X8_behind RX8 cX8_behind 4 (some .int) 10 [(0, .ref x0), (1, .int x1), (2, .int x2), (3, .int x3)] [] S (B_X8_behind_10 rec10 x0 x1 x2 x3 S) := by
  unfold B_X8_behind_10
  refine sm_iload_n (pc := 10) dX8_behind_10 rfl 3 rfl ?_
  refine sm_i2l (pc := 11) dX8_behind_11 ?_
  refine sm_aload_n (pc := 12) dX8_behind_12 rfl 0 rfl ?_
  refine sm_getR (pc := 13) dX8_behind_13 fr_RX8_9 (by decide) rfl (fun v13 => ?_)
  refine sm_sipush (pc := 16) (2520 : Int32) dX8_behind_16 (by decide) ?_
  refine sm_aJ (pc := 19) dX8_behind_19 (fun v19 => ?_)
  refine sm_lcmp_ge 74 (pc := 20) dX8_behind_20 dX8_behind_21 rfl ?_ ?_
  · refine sm_iload_n (pc := 74) dX8_behind_74 rfl 2 rfl ?_
    exact sm_retI (pc := 75) dX8_behind_75
  refine sm_iload_n (pc := 24) dX8_behind_24 rfl 2 rfl ?_
  refine sm_aload_n (pc := 25) dX8_behind_25 rfl 0 rfl ?_
  refine sm_iload_n (pc := 26) dX8_behind_26 rfl 3 rfl ?_
  refine sm_bipush (pc := 27) (14 : Int32) dX8_behind_27 (by decide) ?_
  refine sm_callVL (pc := 29) [.int x3, .int (14 : Int32)] (fun lq rq Sq hq => m_X8_at Z lq x0 x3 (14 : Int32) S hq) dX8_behind_29 mi_X8_at ml_RX8_136 ⟨Nat.le_of_ble_eq_true rfl, Nat.le_of_ble_eq_true rfl, rfl, rfl⟩ rfl (by decide) rfl (Nat.le_of_ble_eq_true rfl) rfl (fun r29 S29 => ?_)
  refine sm_lconst (pc := 32) (0 : Int64) dX8_behind_32 (by decide) ?_
  refine sm_lcmp_le 65 (pc := 33) dX8_behind_33 dX8_behind_34 rfl ?_ ?_
  · refine sm_sub [0, 1, 3] rfl ?_
    exact sJ_X8_behind_65 Z rec10 h10 x0 x1 x3 x2 S29
  refine sm_aload_n (pc := 37) dX8_behind_37 rfl 0 rfl ?_
  refine sm_getR (pc := 38) dX8_behind_38 fr_RX8_9 (by decide) rfl (fun v38 => ?_)
  refine sm_sipush (pc := 41) (2521 : Int32) dX8_behind_41 (by decide) ?_
  refine sm_aJ (pc := 44) dX8_behind_44 (fun v44 => ?_)
  refine sm_aload_n (pc := 45) dX8_behind_45 rfl 0 rfl ?_
  refine sm_iload_n (pc := 46) dX8_behind_46 rfl 3 rfl ?_
  refine sm_bipush (pc := 47) (15 : Int32) dX8_behind_47 (by decide) ?_
  refine sm_callVL (pc := 49) [.int x3, .int (15 : Int32)] (fun lq rq Sq hq => m_X8_at Z lq x0 x3 (15 : Int32) S29 hq) dX8_behind_49 mi_X8_at ml_RX8_136 ⟨Nat.le_of_ble_eq_true rfl, Nat.le_of_ble_eq_true rfl, rfl, rfl⟩ rfl (by decide) rfl (Nat.le_of_ble_eq_true rfl) rfl (fun r49 S49 => ?_)
  refine sm_lsub (pc := 52) dX8_behind_52 ?_
  refine sm_iload_n (pc := 53) dX8_behind_53 rfl 1 rfl ?_
  refine sm_i2l (pc := 54) dX8_behind_54 ?_
  refine sm_lcmp_le 65 (pc := 55) dX8_behind_55 dX8_behind_56 rfl ?_ ?_
  · refine sm_sub [0, 1, 3] rfl ?_
    exact sJ_X8_behind_65 Z rec10 h10 x0 x1 x3 x2 S49
  refine sm_iconst (pc := 59) (1 : Int32) dX8_behind_59 (by decide) ?_
  refine sm_iload_n (pc := 60) dX8_behind_60 rfl 3 rfl ?_
  refine sm_ishl (pc := 61) dX8_behind_61 ?_
  refine sm_goto 66 (pc := 62) dX8_behind_62 rfl ?_
  refine sm_sub [0, 1, 3] rfl ?_
  exact sJ_X8_behind_66 Z rec10 h10 x0 x1 x3 ((1 : Int32) <<< (x3 &&& 31)) x2 S49
set_option maxRecDepth 20000 in
set_option maxHeartbeats 4000000 in
theorem sL_X8_behind_10 (Z : ZT)  (n : Nat) : ∀ (x0 : Nat) (x1 : Int32) (x2 : Int32) (x3 : Int32)  (S : St), Sim eI Z rm_X8_behind RX8 cX8_behind 4 (some .int) 10 [(0, .ref x0), (1, .int x1), (2, .int x2), (3, .int x3)] [] S (L_X8_behind_10  n x0 x1 x2 x3 S) := by
  induction n with
  | zero => intros; exact sm_none
  | succ n ih => intro x0 x1 x2 x3 S; exact sB_X8_behind_10 Z  (L_X8_behind_10  n) ih x0 x1 x2 x3 S
set_option maxRecDepth 20000 in
set_option maxHeartbeats 4000000 in
theorem s_X8_behind (Z : ZT) (c : Nat) (a1 : Int32) (S : St) : Sim eI Z rm_X8_behind RX8 cX8_behind 4 (some .int) 0 [(0, .ref c), (1, .int a1)] [] S (F_X8_behind c a1 S) := by
  unfold F_X8_behind
  refine sm_iload_n (pc := 0) dX8_behind_0 rfl 1 rfl ?_
  refine sm_if_ge 6 (pc := 1) dX8_behind_1 rfl ?_ ?_
  · refine sm_iconst (pc := 6) (0 : Int32) dX8_behind_6 (by decide) ?_
    refine sm_istore_n (pc := 7) (lv' := [(2, .int (0 : Int32)), (0, .ref c), (1, .int a1)]) dX8_behind_7 rfl (by decide) rfl ?_
    refine sm_iconst (pc := 8) (0 : Int32) dX8_behind_8 (by decide) ?_
    refine sm_istore_n (pc := 9) (lv' := [(3, .int (0 : Int32)), (2, .int (0 : Int32)), (0, .ref c), (1, .int a1)]) dX8_behind_9 rfl (by decide) rfl ?_
    refine sm_sub [2, 3, 1, 0] rfl ?_
    exact sL_X8_behind_10 Z  6000 c a1 (0 : Int32) (0 : Int32) S
  refine sm_iconst (pc := 4) (-1 : Int32) dX8_behind_4 (by decide) ?_
  exact sm_retI (pc := 5) dX8_behind_5
set_option maxRecDepth 20000 in
set_option maxHeartbeats 4000000 in
theorem m_X8_behind (Z : ZT) (l : Launch) (c : Nat) (a1 : Int32) (S : St) {r : Int32} {S' : St} (h : F_X8_behind c a1 S = some (r, S')) : MetX Z l yX8_behind cX8_behind 4 (some .int) rm_X8_behind [.ref c, .int a1] S (eI r) S' := Sim.met (by decide +kernel) rfl (Nat.le_of_ble_eq_true rfl) (s_X8_behind Z c a1 S) l h
set_option maxRecDepth 20000 in
set_option maxHeartbeats 4000000 in
theorem sJ_X8_settles_51 (Z : ZT)   (t0 : Int32) (S : St) : Sim eI Z rm_X8_settles RX8 cX8_settles 3 (some .int) 51 [] [.int t0] S (J_X8_settles_51  t0 S) := by
  unfold J_X8_settles_51
  exact sm_retI (pc := 51) dX8_settles_51
set_option maxRecDepth 20000 in
set_option maxHeartbeats 4000000 in
theorem s_X8_settles (Z : ZT) (c : Nat) (a1 : Int32) (S : St) : Sim eI Z rm_X8_settles RX8 cX8_settles 3 (some .int) 0 [(0, .ref c), (1, .int a1)] [] S (F_X8_settles c a1 S) := by
  unfold F_X8_settles
  refine sm_aload_n (pc := 0) dX8_settles_0 rfl 0 rfl ?_
  refine sm_iload_n (pc := 1) dX8_settles_1 rfl 1 rfl ?_
  refine sm_callVI (pc := 2) [.int a1] (fun lq rq Sq hq => m_X8_isLoan Z lq c a1 S hq) dX8_settles_2 mi_X8_isLoan ml_RX8_197 ⟨Nat.le_of_ble_eq_true rfl, Nat.le_of_ble_eq_true rfl, rfl, rfl⟩ rfl (by decide) rfl (Nat.le_of_ble_eq_true rfl) rfl (fun r2 S2 => ?_)
  refine sm_if_ne 10 (pc := 5) dX8_settles_5 rfl ?_ ?_
  · refine sm_aload_n (pc := 10) dX8_settles_10 rfl 0 rfl ?_
    refine sm_iload_n (pc := 11) dX8_settles_11 rfl 1 rfl ?_
    refine sm_iconst (pc := 12) (4 : Int32) dX8_settles_12 (by decide) ?_
    refine sm_callVL (pc := 13) [.int a1, .int (4 : Int32)] (fun lq rq Sq hq => m_X8_at Z lq c a1 (4 : Int32) S2 hq) dX8_settles_13 mi_X8_at ml_RX8_136 ⟨Nat.le_of_ble_eq_true rfl, Nat.le_of_ble_eq_true rfl, rfl, rfl⟩ rfl (by decide) rfl (Nat.le_of_ble_eq_true rfl) rfl (fun r13 S13 => ?_)
    refine sm_l2i (pc := 16) dX8_settles_16 ?_
    refine sm_bdI (fun v17 => ?_)
    refine sm_istore_n (pc := 17) (lv' := [(2, .int v17), (0, .ref c), (1, .int a1)]) dX8_settles_17 rfl (by decide) rfl ?_
    refine sm_aload_n (pc := 18) dX8_settles_18 rfl 1 rfl ?_
    refine sm_iload_n (pc := 19) dX8_settles_19 rfl 2 rfl ?_
    refine sm_bipush (pc := 20) (7 : Int32) dX8_settles_20 (by decide) ?_
    refine sm_callVL (pc := 22) [.int a1, .int (7 : Int32)] (fun lq rq Sq hq => m_X8_at Z lq c a1 (7 : Int32) S13 hq) dX8_settles_22 mi_X8_at ml_RX8_136 ⟨Nat.le_of_ble_eq_true rfl, Nat.le_of_ble_eq_true rfl, rfl, rfl⟩ rfl (by decide) rfl (Nat.le_of_ble_eq_true rfl) rfl (fun r22 S22 => ?_)
    refine sm_iload_n (pc := 25) dX8_settles_25 rfl 0 rfl ?_
    refine sm_i2l (pc := 26) dX8_settles_26 ?_
    refine sm_lcmp_ne 35 (pc := 27) dX8_settles_27 dX8_settles_28 rfl ?_ ?_
    · refine sm_aload_n (pc := 35) dX8_settles_35 rfl 1 rfl ?_
      refine sm_iload_n (pc := 36) dX8_settles_36 rfl 2 rfl ?_
      refine sm_iload_n (pc := 37) dX8_settles_37 rfl 0 rfl ?_
      refine sm_callVI (pc := 38) [.int a1, .int v17] (fun lq rq Sq hq => m_X8_endOf Z lq c a1 v17 S22 hq) dX8_settles_38 mi_X8_endOf ml_RX8_143 ⟨Nat.le_of_ble_eq_true rfl, Nat.le_of_ble_eq_true rfl, rfl, rfl⟩ rfl (by decide) rfl (Nat.le_of_ble_eq_true rfl) rfl (fun r38 S38 => ?_)
      refine sm_aload_n (pc := 41) dX8_settles_41 rfl 1 rfl ?_
      refine sm_getR (pc := 42) dX8_settles_42 fr_RX8_9 (by decide) rfl (fun v42 => ?_)
      refine sm_sipush (pc := 45) (2521 : Int32) dX8_settles_45 (by decide) ?_
      refine sm_aJ (pc := 48) dX8_settles_48 (fun v48 => ?_)
      refine sm_l2i (pc := 49) dX8_settles_49 ?_
      refine sm_isub (pc := 50) dX8_settles_50 ?_
      refine sm_sub [] rfl ?_
      exact sJ_X8_settles_51 Z  (r38 - (Int64.toInt32 v48)) S38
    refine sm_iconst (pc := 31) (0 : Int32) dX8_settles_31 (by decide) ?_
    refine sm_goto 51 (pc := 32) dX8_settles_32 rfl ?_
    refine sm_sub [] rfl ?_
    exact sJ_X8_settles_51 Z  (0 : Int32) S22
  refine sm_iconst (pc := 8) (-1 : Int32) dX8_settles_8 (by decide) ?_
  exact sm_retI (pc := 9) dX8_settles_9
set_option maxRecDepth 20000 in
set_option maxHeartbeats 4000000 in
theorem m_X8_settles (Z : ZT) (l : Launch) (c : Nat) (a1 : Int32) (S : St) {r : Int32} {S' : St} (h : F_X8_settles c a1 S = some (r, S')) : MetX Z l yX8_settles cX8_settles 3 (some .int) rm_X8_settles [.ref c, .int a1] S (eI r) S' := Sim.met (by decide +kernel) rfl (Nat.le_of_ble_eq_true rfl) (s_X8_settles Z c a1 S) l h
set_option maxRecDepth 20000 in
set_option maxHeartbeats 4000000 in
theorem sJ_X8_would_22 (Z : ZT)    (S : St) : Sim eL Z rm_X8_would RX8 cX8_would 5 (some .long) 22 [] [] S (J_X8_would_22  S) := by
  unfold J_X8_would_22
  refine sm_ldc2 (pc := 22) (-1 : Int64) dX8_would_22 kc_RX8_134 ?_
  exact sm_retL (pc := 25) dX8_would_25
set_option maxRecDepth 20000 in
set_option maxHeartbeats 4000000 in
theorem s_X8_would (Z : ZT) (c : Nat) (a1 : Int32) (a2 : Int64) (a3 : Int32) (S : St) : Sim eL Z rm_X8_would RX8 cX8_would 5 (some .long) 0 [(0, .ref c), (1, .int a1), (2, .long a2), (4, .int a3)] [] S (F_X8_would c a1 a2 a3 S) := by
  unfold F_X8_would
  refine sm_aload_n (pc := 0) dX8_would_0 rfl 0 rfl ?_
  refine sm_iload_n (pc := 1) dX8_would_1 rfl 1 rfl ?_
  refine sm_lload_n (pc := 2) dX8_would_2 rfl 2 rfl ?_
  refine sm_callVI (pc := 3) [.int a1, .long a2] (fun lq rq Sq hq => m_X8_isPaid Z lq c a1 a2 S hq) dX8_would_3 mi_X8_isPaid ml_RX8_202 ⟨Nat.le_of_ble_eq_true rfl, Nat.le_of_ble_eq_true rfl, rfl, rfl⟩ rfl (by decide) rfl (Nat.le_of_ble_eq_true rfl) rfl (fun r3 S3 => ?_)
  refine sm_if_eq 22 (pc := 6) dX8_would_6 rfl ?_ ?_
  · refine sm_sub [] rfl ?_
    exact sJ_X8_would_22 Z  S3
  refine sm_iload (pc := 9) dX8_would_9 3 rfl ?_
  refine sm_i2l (pc := 11) dX8_would_11 ?_
  refine sm_lconst (pc := 12) (0 : Int64) dX8_would_12 (by decide) ?_
  refine sm_ldc2 (pc := 13) (5 : Int64) dX8_would_13 kc_RX8_265 ?_
  refine sm_callSI (pc := 16) [.long (Int32.toInt64 a3), .long (0 : Int64), .long (5 : Int64)] (fun lq rq Sq hq => m_X8_in Z lq (Int32.toInt64 a3) (0 : Int64) (5 : Int64) S3 hq) dX8_would_16 mi_X8_in ml_RX8_85 ⟨Nat.le_of_ble_eq_true rfl, Nat.le_of_ble_eq_true rfl, rfl, rfl⟩ rfl (Nat.le_of_ble_eq_true rfl) rfl (fun r16 S16 => ?_)
  refine sm_if_ne 26 (pc := 19) dX8_would_19 rfl ?_ ?_
  · refine sm_aload_n (pc := 26) dX8_would_26 rfl 0 rfl ?_
    refine sm_getR (pc := 27) dX8_would_27 fr_RX8_9 (by decide) rfl (fun v27 => ?_)
    refine sm_aload_n (pc := 30) dX8_would_30 rfl 0 rfl ?_
    refine sm_getR (pc := 31) dX8_would_31 fr_RX8_13 (by decide) rfl (fun v31 => ?_)
    refine sm_callSV (pc := 34) [.ref v27, .ref v31] (fun lq rq Sq hq => m_X8_take Z lq v27 v31 S16 hq) dX8_would_34 mi_X8_take ml_RX8_267 ⟨Nat.le_of_ble_eq_true rfl, Nat.le_of_ble_eq_true rfl, rfl, rfl⟩ rfl (Nat.le_of_ble_eq_true rfl) rfl (fun _ S34 => ?_)
    refine sm_aload_n (pc := 37) dX8_would_37 rfl 0 rfl ?_
    refine sm_iload_n (pc := 38) dX8_would_38 rfl 1 rfl ?_
    refine sm_lload_n (pc := 39) dX8_would_39 rfl 2 rfl ?_
    refine sm_callVV (pc := 40) [.int a1, .long a2] (fun lq rq Sq hq => m_X8_pays Z lq c a1 a2 S34 hq) dX8_would_40 mi_X8_pays ml_RX8_205 ⟨Nat.le_of_ble_eq_true rfl, Nat.le_of_ble_eq_true rfl, rfl, rfl⟩ rfl (by decide) rfl (Nat.le_of_ble_eq_true rfl) rfl (fun _ S40 => ?_)
    refine sm_aload_n (pc := 43) dX8_would_43 rfl 0 rfl ?_
    refine sm_getR (pc := 44) dX8_would_44 fr_RX8_13 (by decide) rfl (fun v44 => ?_)
    refine sm_aload_n (pc := 47) dX8_would_47 rfl 0 rfl ?_
    refine sm_getR (pc := 48) dX8_would_48 fr_RX8_9 (by decide) rfl (fun v48 => ?_)
    refine sm_callSV (pc := 51) [.ref v44, .ref v48] (fun lq rq Sq hq => m_X8_take Z lq v44 v48 S40 hq) dX8_would_51 mi_X8_take ml_RX8_267 ⟨Nat.le_of_ble_eq_true rfl, Nat.le_of_ble_eq_true rfl, rfl, rfl⟩ rfl (Nat.le_of_ble_eq_true rfl) rfl (fun _ S51 => ?_)
    refine sm_aload_n (pc := 54) dX8_would_54 rfl 0 rfl ?_
    refine sm_getR (pc := 55) dX8_would_55 fr_RX8_35 (by decide) rfl (fun v55 => ?_)
    refine sm_iload (pc := 58) dX8_would_58 3 rfl ?_
    refine sm_aJ (pc := 60) dX8_would_60 (fun v60 => ?_)
    exact sm_retL (pc := 61) dX8_would_61
  refine sm_sub [] rfl ?_
  exact sJ_X8_would_22 Z  S16
set_option maxRecDepth 20000 in
set_option maxHeartbeats 4000000 in
theorem m_X8_would (Z : ZT) (l : Launch) (c : Nat) (a1 : Int32) (a2 : Int64) (a3 : Int32) (S : St) {r : Int64} {S' : St} (h : F_X8_would c a1 a2 a3 S = some (r, S')) : MetX Z l yX8_would cX8_would 5 (some .long) rm_X8_would [.ref c, .int a1, .long a2, .int a3] S (eL r) S' := Sim.met (by decide +kernel) rfl (Nat.le_of_ble_eq_true rfl) (s_X8_would Z c a1 a2 a3 S) l h
set_option maxRecDepth 20000 in
set_option maxHeartbeats 4000000 in
theorem sJ_X8_lastPrincipal_35 (Z : ZT) (rec9 : (Nat → Int32 → Int32 → St → Option (Int32 × St))) (h9 : ∀ (x0 : Nat) (x2 : Int32) (x3 : Int32)  (S : St), Sim eI Z rm_X8_lastPrincipal RX8 cX8_lastPrincipal 4 (some .int) 9 [(0, .ref x0), (2, .int x2), (3, .int x3)] [] S (rec9 x0 x2 x3 S)) (x0 : Nat) (x3 : Int32) (t0 : Int32) (S : St) : Sim eI Z rm_X8_lastPrincipal RX8 cX8_lastPrincipal 4 (some .int) 35 [(0, .ref x0), (3, .int x3)] [.int t0] S (J_X8_lastPrincipal_35 rec9 x0 x3 t0 S) := by
  unfold J_X8_lastPrincipal_35
  refine sm_istore_n (pc := 35) (lv' := [(2, .int t0), (0, .ref x0), (3, .int x3)]) dX8_lastPrincipal_35 rfl (by decide) rfl ?_
  refine sm_iinc (pc := 36) (x3 + 1) (lv' := [(3, .int (x3 + 1)), (2, .int t0), (0, .ref x0)]) dX8_lastPrincipal_36 2 rfl rfl (by decide) rfl ?_
  refine sm_goto 9 (pc := 39) dX8_lastPrincipal_39 rfl ?_
  refine sm_sub [2, 1, 0] rfl ?_
  exact h9 x0 t0 (x3 + 1) S
set_option maxRecDepth 20000 in
set_option maxHeartbeats 4000000 in
theorem sB_X8_lastPrincipal_9 (Z : ZT) (rec9 : (Nat → Int32 → Int32 → St → Option (Int32 × St))) (h9 : ∀ (x0 : Nat) (x2 : Int32) (x3 : Int32)  (S : St), Sim eI Z rm_X8_lastPrincipal RX8 cX8_lastPrincipal 4 (some .int) 9 [(0, .ref x0), (2, .int x2), (3, .int x3)] [] S (rec9 x0 x2 x3 S)) (x0 : Nat) (x2 : Int32) (x3 : Int32)  (S : St) : Sim eI Z rm_X8_lastPrincipal RX8 cX8_lastPrincipal 4 (some .int) 9 [(0, .ref x0), (2, .int x2), (3, .int x3)] [] S (B_X8_lastPrincipal_9 rec9 x0 x2 x3 S) := by
  unfold B_X8_lastPrincipal_9
  refine sm_iload_n (pc := 9) dX8_lastPrincipal_9 rfl 2 rfl ?_
  refine sm_aload_n (pc := 10) dX8_lastPrincipal_10 rfl 0 rfl ?_
  refine sm_getI (pc := 11) dX8_lastPrincipal_11 fr_RX8_222 (by decide) rfl (fun v11 => ?_)
  refine sm_icmp_ge 42 (pc := 14) dX8_lastPrincipal_14 rfl ?_ ?_
  · refine sm_iload_n (pc := 42) dX8_lastPrincipal_42 rfl 1 rfl ?_
    exact sm_retI (pc := 43) dX8_lastPrincipal_43
  refine sm_aload_n (pc := 17) dX8_lastPrincipal_17 rfl 0 rfl ?_
  refine sm_getR (pc := 18) dX8_lastPrincipal_18 fr_RX8_29 (by decide) rfl (fun v18 => ?_)
  refine sm_iload_n (pc := 21) dX8_lastPrincipal_21 rfl 2 rfl ?_
  refine sm_aJ (pc := 22) dX8_lastPrincipal_22 (fun v22 => ?_)
  refine sm_lconst (pc := 23) (0 : Int64) dX8_lastPrincipal_23 (by decide) ?_
  refine sm_lcmp_le 34 (pc := 24) dX8_lastPrincipal_24 dX8_lastPrincipal_25 rfl ?_ ?_
  · refine sm_iload_n (pc := 34) dX8_lastPrincipal_34 rfl 1 rfl ?_
    refine sm_sub [0, 2] rfl ?_
    exact sJ_X8_lastPrincipal_35 Z rec9 h9 x0 x3 x2 S
  refine sm_iload_n (pc := 28) dX8_lastPrincipal_28 rfl 2 rfl ?_
  refine sm_iconst (pc := 29) (1 : Int32) dX8_lastPrincipal_29 (by decide) ?_
  refine sm_iadd (pc := 30) dX8_lastPrincipal_30 ?_
  refine sm_goto 35 (pc := 31) dX8_lastPrincipal_31 rfl ?_
  refine sm_sub [0, 2] rfl ?_
  exact sJ_X8_lastPrincipal_35 Z rec9 h9 x0 x3 (x3 + (1 : Int32)) S
set_option maxRecDepth 20000 in
set_option maxHeartbeats 4000000 in
theorem sL_X8_lastPrincipal_9 (Z : ZT)  (n : Nat) : ∀ (x0 : Nat) (x2 : Int32) (x3 : Int32)  (S : St), Sim eI Z rm_X8_lastPrincipal RX8 cX8_lastPrincipal 4 (some .int) 9 [(0, .ref x0), (2, .int x2), (3, .int x3)] [] S (L_X8_lastPrincipal_9  n x0 x2 x3 S) := by
  induction n with
  | zero => intros; exact sm_none
  | succ n ih => intro x0 x2 x3 S; exact sB_X8_lastPrincipal_9 Z  (L_X8_lastPrincipal_9  n) ih x0 x2 x3 S
set_option maxRecDepth 20000 in
set_option maxHeartbeats 4000000 in
theorem s_X8_lastPrincipal (Z : ZT) (c : Nat) (a1 : Int32) (S : St) : Sim eI Z rm_X8_lastPrincipal RX8 cX8_lastPrincipal 4 (some .int) 0 [(0, .ref c), (1, .int a1)] [] S (F_X8_lastPrincipal c a1 S) := by
  unfold F_X8_lastPrincipal
  refine sm_aload_n (pc := 0) dX8_lastPrincipal_0 rfl 0 rfl ?_
  refine sm_iload_n (pc := 1) dX8_lastPrincipal_1 rfl 1 rfl ?_
  refine sm_callVV (pc := 2) [.int a1] (fun lq rq Sq hq => m_X8_comes Z lq c a1 S hq) dX8_lastPrincipal_2 mi_X8_comes ml_RX8_219 ⟨Nat.le_of_ble_eq_true rfl, Nat.le_of_ble_eq_true rfl, rfl, rfl⟩ rfl (by decide) rfl (Nat.le_of_ble_eq_true rfl) rfl (fun _ S2 => ?_)
  refine sm_iconst (pc := 5) (0 : Int32) dX8_lastPrincipal_5 (by decide) ?_
  refine sm_istore_n (pc := 6) (lv' := [(2, .int (0 : Int32)), (0, .ref c), (1, .int a1)]) dX8_lastPrincipal_6 rfl (by decide) rfl ?_
  refine sm_iconst (pc := 7) (0 : Int32) dX8_lastPrincipal_7 (by decide) ?_
  refine sm_istore_n (pc := 8) (lv' := [(3, .int (0 : Int32)), (2, .int (0 : Int32)), (0, .ref c), (1, .int a1)]) dX8_lastPrincipal_8 rfl (by decide) rfl ?_
  refine sm_sub [2, 1, 0] rfl ?_
  exact sL_X8_lastPrincipal_9 Z  6000 c (0 : Int32) (0 : Int32) S2
set_option maxRecDepth 20000 in
set_option maxHeartbeats 4000000 in
theorem m_X8_lastPrincipal (Z : ZT) (l : Launch) (c : Nat) (a1 : Int32) (S : St) {r : Int32} {S' : St} (h : F_X8_lastPrincipal c a1 S = some (r, S')) : MetX Z l yX8_lastPrincipal cX8_lastPrincipal 4 (some .int) rm_X8_lastPrincipal [.ref c, .int a1] S (eI r) S' := Sim.met (by decide +kernel) rfl (Nat.le_of_ble_eq_true rfl) (s_X8_lastPrincipal Z c a1 S) l h
set_option maxRecDepth 20000 in
set_option maxHeartbeats 4000000 in
theorem sJ_X8_sooner_69 (Z : ZT)   (t0 : Int32) (S : St) : Sim eI Z rm_X8_sooner RX8 cX8_sooner 6 (some .int) 69 [] [.int t0] S (J_X8_sooner_69  t0 S) := by
  unfold J_X8_sooner_69
  exact sm_retI (pc := 69) dX8_sooner_69
set_option maxRecDepth 20000 in
set_option maxHeartbeats 4000000 in
theorem s_X8_sooner (Z : ZT) (c : Nat) (a1 : Int32) (a2 : Int64) (S : St) : Sim eI Z rm_X8_sooner RX8 cX8_sooner 6 (some .int) 0 [(0, .ref c), (1, .int a1), (2, .long a2)] [] S (F_X8_sooner c a1 a2 S) := by
  unfold F_X8_sooner
  refine sm_aload_n (pc := 0) dX8_sooner_0 rfl 0 rfl ?_
  refine sm_iload_n (pc := 1) dX8_sooner_1 rfl 1 rfl ?_
  refine sm_lload_n (pc := 2) dX8_sooner_2 rfl 2 rfl ?_
  refine sm_callVI (pc := 3) [.int a1, .long a2] (fun lq rq Sq hq => m_X8_isPaid Z lq c a1 a2 S hq) dX8_sooner_3 mi_X8_isPaid ml_RX8_202 ⟨Nat.le_of_ble_eq_true rfl, Nat.le_of_ble_eq_true rfl, rfl, rfl⟩ rfl (by decide) rfl (Nat.le_of_ble_eq_true rfl) rfl (fun r3 S3 => ?_)
  refine sm_if_ne 11 (pc := 6) dX8_sooner_6 rfl ?_ ?_
  · refine sm_aload_n (pc := 11) dX8_sooner_11 rfl 0 rfl ?_
    refine sm_iload_n (pc := 12) dX8_sooner_12 rfl 1 rfl ?_
    refine sm_callVI (pc := 13) [.int a1] (fun lq rq Sq hq => m_X8_lastPrincipal Z lq c a1 S3 hq) dX8_sooner_13 mi_X8_lastPrincipal ml_RX8_271 ⟨Nat.le_of_ble_eq_true rfl, Nat.le_of_ble_eq_true rfl, rfl, rfl⟩ rfl (by decide) rfl (Nat.le_of_ble_eq_true rfl) rfl (fun r13 S13 => ?_)
    refine sm_istore (pc := 16) (lv' := [(4, .int r13), (0, .ref c), (1, .int a1), (2, .long a2)]) dX8_sooner_16 (by decide) rfl ?_
    refine sm_aload_n (pc := 18) dX8_sooner_18 rfl 1 rfl ?_
    refine sm_getR (pc := 19) dX8_sooner_19 fr_RX8_9 (by decide) rfl (fun v19 => ?_)
    refine sm_aload_n (pc := 22) dX8_sooner_22 rfl 1 rfl ?_
    refine sm_getR (pc := 23) dX8_sooner_23 fr_RX8_13 (by decide) rfl (fun v23 => ?_)
    refine sm_callSV (pc := 26) [.ref v19, .ref v23] (fun lq rq Sq hq => m_X8_take Z lq v19 v23 S13 hq) dX8_sooner_26 mi_X8_take ml_RX8_267 ⟨Nat.le_of_ble_eq_true rfl, Nat.le_of_ble_eq_true rfl, rfl, rfl⟩ rfl (Nat.le_of_ble_eq_true rfl) rfl (fun _ S26 => ?_)
    refine sm_aload_n (pc := 29) dX8_sooner_29 rfl 1 rfl ?_
    refine sm_iload_n (pc := 30) dX8_sooner_30 rfl 2 rfl ?_
    refine sm_lload_n (pc := 31) dX8_sooner_31 rfl 3 rfl ?_
    refine sm_callVV (pc := 32) [.int a1, .long a2] (fun lq rq Sq hq => m_X8_pays Z lq c a1 a2 S26 hq) dX8_sooner_32 mi_X8_pays ml_RX8_205 ⟨Nat.le_of_ble_eq_true rfl, Nat.le_of_ble_eq_true rfl, rfl, rfl⟩ rfl (by decide) rfl (Nat.le_of_ble_eq_true rfl) rfl (fun _ S32 => ?_)
    refine sm_aload_n (pc := 35) dX8_sooner_35 rfl 1 rfl ?_
    refine sm_iload_n (pc := 36) dX8_sooner_36 rfl 2 rfl ?_
    refine sm_callVI (pc := 37) [.int a1] (fun lq rq Sq hq => m_X8_lastPrincipal Z lq c a1 S32 hq) dX8_sooner_37 mi_X8_lastPrincipal ml_RX8_271 ⟨Nat.le_of_ble_eq_true rfl, Nat.le_of_ble_eq_true rfl, rfl, rfl⟩ rfl (by decide) rfl (Nat.le_of_ble_eq_true rfl) rfl (fun r37 S37 => ?_)
    refine sm_istore (pc := 40) (lv' := [(5, .int r37), (4, .int r13), (0, .ref c), (1, .int a1), (2, .long a2)]) dX8_sooner_40 (by decide) rfl ?_
    refine sm_aload_n (pc := 42) dX8_sooner_42 rfl 2 rfl ?_
    refine sm_getR (pc := 43) dX8_sooner_43 fr_RX8_13 (by decide) rfl (fun v43 => ?_)
    refine sm_aload_n (pc := 46) dX8_sooner_46 rfl 2 rfl ?_
    refine sm_getR (pc := 47) dX8_sooner_47 fr_RX8_9 (by decide) rfl (fun v47 => ?_)
    refine sm_callSV (pc := 50) [.ref v43, .ref v47] (fun lq rq Sq hq => m_X8_take Z lq v43 v47 S37 hq) dX8_sooner_50 mi_X8_take ml_RX8_267 ⟨Nat.le_of_ble_eq_true rfl, Nat.le_of_ble_eq_true rfl, rfl, rfl⟩ rfl (Nat.le_of_ble_eq_true rfl) rfl (fun _ S50 => ?_)
    refine sm_iload (pc := 53) dX8_sooner_53 1 rfl ?_
    refine sm_iload (pc := 55) dX8_sooner_55 0 rfl ?_
    refine sm_icmp_le 68 (pc := 57) dX8_sooner_57 rfl ?_ ?_
    · refine sm_iconst (pc := 68) (0 : Int32) dX8_sooner_68 (by decide) ?_
      refine sm_sub [] rfl ?_
      exact sJ_X8_sooner_69 Z  (0 : Int32) S50
    refine sm_iload (pc := 60) dX8_sooner_60 1 rfl ?_
    refine sm_iload (pc := 62) dX8_sooner_62 0 rfl ?_
    refine sm_isub (pc := 64) dX8_sooner_64 ?_
    refine sm_goto 69 (pc := 65) dX8_sooner_65 rfl ?_
    refine sm_sub [] rfl ?_
    exact sJ_X8_sooner_69 Z  (r13 - r37) S50
  refine sm_iconst (pc := 9) (-1 : Int32) dX8_sooner_9 (by decide) ?_
  exact sm_retI (pc := 10) dX8_sooner_10
set_option maxRecDepth 20000 in
set_option maxHeartbeats 4000000 in
theorem m_X8_sooner (Z : ZT) (l : Launch) (c : Nat) (a1 : Int32) (a2 : Int64) (S : St) {r : Int32} {S' : St} (h : F_X8_sooner c a1 a2 S = some (r, S')) : MetX Z l yX8_sooner cX8_sooner 6 (some .int) rm_X8_sooner [.ref c, .int a1, .long a2] S (eI r) S' := Sim.met (by decide +kernel) rfl (Nat.le_of_ble_eq_true rfl) (s_X8_sooner Z c a1 a2 S) l h
set_option maxRecDepth 20000 in
set_option maxHeartbeats 4000000 in
theorem s_X8_isHolder (Z : ZT) (c : Nat) (a1 : Int32) (S : St) : Sim eI Z rm_X8_isHolder RX8 cX8_isHolder 2 (some .boolean) 0 [(0, .ref c), (1, .int a1)] [] S (F_X8_isHolder c a1 S) := by
  unfold F_X8_isHolder
  refine sm_iload_n (pc := 0) dX8_isHolder_0 rfl 1 rfl ?_
  refine sm_i2l (pc := 1) dX8_isHolder_1 ?_
  refine sm_lconst (pc := 2) (0 : Int64) dX8_isHolder_2 (by decide) ?_
  refine sm_ldc2 (pc := 3) (5 : Int64) dX8_isHolder_3 kc_RX8_265 ?_
  refine sm_callSI (pc := 6) [.long (Int32.toInt64 a1), .long (0 : Int64), .long (5 : Int64)] (fun lq rq Sq hq => m_X8_in Z lq (Int32.toInt64 a1) (0 : Int64) (5 : Int64) S hq) dX8_isHolder_6 mi_X8_in ml_RX8_85 ⟨Nat.le_of_ble_eq_true rfl, Nat.le_of_ble_eq_true rfl, rfl, rfl⟩ rfl (Nat.le_of_ble_eq_true rfl) rfl (fun r6 S6 => ?_)
  exact sm_retZ (pc := 9) dX8_isHolder_9
set_option maxRecDepth 20000 in
set_option maxHeartbeats 4000000 in
theorem m_X8_isHolder (Z : ZT) (l : Launch) (c : Nat) (a1 : Int32) (S : St) {r : Int32} {S' : St} (h : F_X8_isHolder c a1 S = some (r, S')) : MetX Z l yX8_isHolder cX8_isHolder 2 (some .boolean) rm_X8_isHolder [.ref c, .int a1] S (eI r) S' := Sim.met (by decide +kernel) rfl (Nat.le_of_ble_eq_true rfl) (s_X8_isHolder Z c a1 S) l h
set_option maxRecDepth 20000 in
set_option maxHeartbeats 4000000 in
theorem sJ_X8_judge_16 (Z : ZT)    (S : St) : Sim eI Z rm_X8_judge RX8 cX8_judge 5 (some .int) 16 [] [] S (J_X8_judge_16  S) := by
  unfold J_X8_judge_16
  refine sm_iconst (pc := 16) (-1 : Int32) dX8_judge_16 (by decide) ?_
  exact sm_retI (pc := 17) dX8_judge_17
set_option maxRecDepth 20000 in
set_option maxHeartbeats 4000000 in
theorem sJ_X8_judge_44 (Z : ZT)   (t0 : Int32) (S : St) : Sim eI Z rm_X8_judge RX8 cX8_judge 5 (some .int) 44 [] [.int t0] S (J_X8_judge_44  t0 S) := by
  unfold J_X8_judge_44
  exact sm_retI (pc := 44) dX8_judge_44
set_option maxRecDepth 20000 in
set_option maxHeartbeats 4000000 in
theorem sJ_X8_judge_93 (Z : ZT)  (x3 : Int32)  (S : St) : Sim eI Z rm_X8_judge RX8 cX8_judge 5 (some .int) 93 [(3, .int x3)] [] S (J_X8_judge_93  x3 S) := by
  unfold J_X8_judge_93
  refine sm_iload_n (pc := 93) dX8_judge_93 rfl 0 rfl ?_
  exact sm_retI (pc := 94) dX8_judge_94
set_option maxRecDepth 20000 in
set_option maxHeartbeats 4000000 in
theorem sJ_X8_judge_125 (Z : ZT)   (t0 : Int32) (S : St) : Sim eI Z rm_X8_judge RX8 cX8_judge 5 (some .int) 125 [] [.int t0] S (J_X8_judge_125  t0 S) := by
  unfold J_X8_judge_125
  exact sm_retI (pc := 125) dX8_judge_125
set_option maxRecDepth 20000 in
set_option maxHeartbeats 4000000 in
theorem sB_X8_judge_52 (Z : ZT) (rec52 : (Nat → Int32 → Int32 → St → Option (Int32 × St))) (h52 : ∀ (x0 : Nat) (x1 : Int32) (x3 : Int32)  (S : St), Sim eI Z rm_X8_judge RX8 cX8_judge 5 (some .int) 52 [(0, .ref x0), (1, .int x1), (3, .int x3)] [] S (rec52 x0 x1 x3 S)) (x0 : Nat) (x1 : Int32) (x3 : Int32)  (S : St) : Sim eI Z rm_X8_judge RX8 cX8_judge 5 (some .int) 52 [(0, .ref x0), (1, .int x1), (3, .int x3)] [] S (B_X8_judge_52 rec52 x0 x1 x3 S) := by
  unfold B_X8_judge_52
  refine sm_iload_n (pc := 52) dX8_judge_52 rfl 2 rfl ?_
  refine sm_aload_n (pc := 53) dX8_judge_53 rfl 0 rfl ?_
  refine sm_getR (pc := 54) dX8_judge_54 fr_RX8_53 (by decide) rfl (fun v54 => ?_)
  refine sm_iload_n (pc := 57) dX8_judge_57 rfl 1 rfl ?_
  refine sm_aI (pc := 58) dX8_judge_58 (fun v58 => ?_)
  refine sm_icmp_ge 101 (pc := 59) dX8_judge_59 rfl ?_ ?_
  · refine sm_aload_n (pc := 101) dX8_judge_101 rfl 0 rfl ?_
    refine sm_aload_n (pc := 102) dX8_judge_102 rfl 0 rfl ?_
    refine sm_getR (pc := 103) dX8_judge_103 fr_RX8_53 (by decide) rfl (fun v103 => ?_)
    refine sm_iload_n (pc := 106) dX8_judge_106 rfl 1 rfl ?_
    refine sm_aI (pc := 107) dX8_judge_107 (fun v107 => ?_)
    refine sm_callVI (pc := 108) [.int v107] (fun lq rq Sq hq => m_X8_nth Z lq x0 v107 S hq) dX8_judge_108 mi_X8_nth ml_RX8_231 ⟨Nat.le_of_ble_eq_true rfl, Nat.le_of_ble_eq_true rfl, rfl, rfl⟩ rfl (by decide) rfl (Nat.le_of_ble_eq_true rfl) rfl (fun r108 S108 => ?_)
    refine sm_if_lt 123 (pc := 111) dX8_judge_111 rfl ?_ ?_
    · refine sm_bipush (pc := 123) (-2 : Int32) dX8_judge_123 (by decide) ?_
      refine sm_sub [] rfl ?_
      exact sJ_X8_judge_125 Z  (-2 : Int32) S108
    refine sm_aload_n (pc := 114) dX8_judge_114 rfl 0 rfl ?_
    refine sm_getR (pc := 115) dX8_judge_115 fr_RX8_53 (by decide) rfl (fun v115 => ?_)
    refine sm_iload_n (pc := 118) dX8_judge_118 rfl 1 rfl ?_
    refine sm_aI (pc := 119) dX8_judge_119 (fun v119 => ?_)
    refine sm_goto 125 (pc := 120) dX8_judge_120 rfl ?_
    refine sm_sub [] rfl ?_
    exact sJ_X8_judge_125 Z  v119 S108
  refine sm_aload_n (pc := 62) dX8_judge_62 rfl 0 rfl ?_
  refine sm_iload_n (pc := 63) dX8_judge_63 rfl 2 rfl ?_
  refine sm_callVI (pc := 64) [.int x3] (fun lq rq Sq hq => m_X8_nth Z lq x0 x3 S hq) dX8_judge_64 mi_X8_nth ml_RX8_231 ⟨Nat.le_of_ble_eq_true rfl, Nat.le_of_ble_eq_true rfl, rfl, rfl⟩ rfl (by decide) rfl (Nat.le_of_ble_eq_true rfl) rfl (fun r64 S64 => ?_)
  refine sm_istore (pc := 67) (lv' := [(4, .int r64), (0, .ref x0), (1, .int x1), (3, .int x3)]) dX8_judge_67 (by decide) rfl ?_
  refine sm_iload (pc := 69) dX8_judge_69 0 rfl ?_
  refine sm_if_lt 93 (pc := 71) dX8_judge_71 rfl ?_ ?_
  · refine sm_sub [3] rfl ?_
    exact sJ_X8_judge_93 Z  x3 S64
  refine sm_aload_n (pc := 74) dX8_judge_74 rfl 1 rfl ?_
  refine sm_getR (pc := 75) dX8_judge_75 fr_RX8_29 (by decide) rfl (fun v75 => ?_)
  refine sm_iload (pc := 78) dX8_judge_78 0 rfl ?_
  refine sm_aJ (pc := 80) dX8_judge_80 (fun v80 => ?_)
  refine sm_aload_n (pc := 81) dX8_judge_81 rfl 1 rfl ?_
  refine sm_getR (pc := 82) dX8_judge_82 fr_RX8_58 (by decide) rfl (fun v82 => ?_)
  refine sm_iload_n (pc := 85) dX8_judge_85 rfl 2 rfl ?_
  refine sm_aR (pc := 86) dX8_judge_86 (by decide) (fun v86 => ?_)
  refine sm_iload_n (pc := 87) dX8_judge_87 rfl 3 rfl ?_
  refine sm_aJ (pc := 88) dX8_judge_88 (fun v88 => ?_)
  refine sm_lcmp_eq 95 (pc := 89) dX8_judge_89 dX8_judge_90 rfl ?_ ?_
  · refine sm_iinc (pc := 95) (x3 + 1) (lv' := [(3, .int (x3 + 1)), (4, .int r64), (0, .ref x0), (1, .int x1)]) dX8_judge_95 3 rfl rfl (by decide) rfl ?_
    refine sm_goto 52 (pc := 98) dX8_judge_98 rfl ?_
    refine sm_sub [2, 3, 0] rfl ?_
    exact h52 x0 x1 (x3 + 1) S64
  refine sm_sub [3] rfl ?_
  exact sJ_X8_judge_93 Z  x3 S64
set_option maxRecDepth 20000 in
set_option maxHeartbeats 4000000 in
theorem sL_X8_judge_52 (Z : ZT)  (n : Nat) : ∀ (x0 : Nat) (x1 : Int32) (x3 : Int32)  (S : St), Sim eI Z rm_X8_judge RX8 cX8_judge 5 (some .int) 52 [(0, .ref x0), (1, .int x1), (3, .int x3)] [] S (L_X8_judge_52  n x0 x1 x3 S) := by
  induction n with
  | zero => intros; exact sm_none
  | succ n ih => intro x0 x1 x3 S; exact sB_X8_judge_52 Z  (L_X8_judge_52  n) ih x0 x1 x3 S
set_option maxRecDepth 20000 in
set_option maxHeartbeats 4000000 in
theorem s_X8_judge (Z : ZT) (c : Nat) (a1 : Int32) (a2 : Int32) (S : St) : Sim eI Z rm_X8_judge RX8 cX8_judge 5 (some .int) 0 [(0, .ref c), (1, .int a1), (2, .int a2)] [] S (F_X8_judge c a1 a2 S) := by
  unfold F_X8_judge
  refine sm_aload_n (pc := 0) dX8_judge_0 rfl 0 rfl ?_
  refine sm_iload_n (pc := 1) dX8_judge_1 rfl 1 rfl ?_
  refine sm_callVI (pc := 2) [.int a1] (fun lq rq Sq hq => m_X8_isHolder Z lq c a1 S hq) dX8_judge_2 mi_X8_isHolder ml_RX8_274 ⟨Nat.le_of_ble_eq_true rfl, Nat.le_of_ble_eq_true rfl, rfl, rfl⟩ rfl (by decide) rfl (Nat.le_of_ble_eq_true rfl) rfl (fun r2 S2 => ?_)
  refine sm_if_eq 16 (pc := 5) dX8_judge_5 rfl ?_ ?_
  · refine sm_sub [] rfl ?_
    exact sJ_X8_judge_16 Z  S2
  refine sm_aload_n (pc := 8) dX8_judge_8 rfl 0 rfl ?_
  refine sm_iload_n (pc := 9) dX8_judge_9 rfl 2 rfl ?_
  refine sm_callVI (pc := 10) [.int a2] (fun lq rq Sq hq => m_X8_isLoan Z lq c a2 S2 hq) dX8_judge_10 mi_X8_isLoan ml_RX8_197 ⟨Nat.le_of_ble_eq_true rfl, Nat.le_of_ble_eq_true rfl, rfl, rfl⟩ rfl (by decide) rfl (Nat.le_of_ble_eq_true rfl) rfl (fun r10 S10 => ?_)
  refine sm_if_ne 18 (pc := 13) dX8_judge_13 rfl ?_ ?_
  · refine sm_aload_n (pc := 18) dX8_judge_18 rfl 0 rfl ?_
    refine sm_getR (pc := 19) dX8_judge_19 fr_RX8_41 (by decide) rfl (fun v19 => ?_)
    refine sm_iload_n (pc := 22) dX8_judge_22 rfl 1 rfl ?_
    refine sm_aI (pc := 23) dX8_judge_23 (fun v23 => ?_)
    refine sm_iconst (pc := 24) (3 : Int32) dX8_judge_24 (by decide) ?_
    refine sm_icmp_eq 45 (pc := 25) dX8_judge_25 rfl ?_ ?_
    · refine sm_aload_n (pc := 45) dX8_judge_45 rfl 0 rfl ?_
      refine sm_iload_n (pc := 46) dX8_judge_46 rfl 2 rfl ?_
      refine sm_callVV (pc := 47) [.int a2] (fun lq rq Sq hq => m_X8_comes Z lq c a2 S10 hq) dX8_judge_47 mi_X8_comes ml_RX8_219 ⟨Nat.le_of_ble_eq_true rfl, Nat.le_of_ble_eq_true rfl, rfl, rfl⟩ rfl (by decide) rfl (Nat.le_of_ble_eq_true rfl) rfl (fun _ S47 => ?_)
      refine sm_iconst (pc := 50) (0 : Int32) dX8_judge_50 (by decide) ?_
      refine sm_istore_n (pc := 51) (lv' := [(3, .int (0 : Int32)), (0, .ref c), (1, .int a1), (2, .int a2)]) dX8_judge_51 rfl (by decide) rfl ?_
      refine sm_sub [1, 2, 0] rfl ?_
      exact sL_X8_judge_52 Z  6000 c a1 (0 : Int32) S47
    refine sm_aload_n (pc := 28) dX8_judge_28 rfl 0 rfl ?_
    refine sm_getR (pc := 29) dX8_judge_29 fr_RX8_41 (by decide) rfl (fun v29 => ?_)
    refine sm_iload_n (pc := 32) dX8_judge_32 rfl 1 rfl ?_
    refine sm_aI (pc := 33) dX8_judge_33 (fun v33 => ?_)
    refine sm_if_ne 42 (pc := 34) dX8_judge_34 rfl ?_ ?_
    · refine sm_bipush (pc := 42) (-12 : Int32) dX8_judge_42 (by decide) ?_
      refine sm_sub [] rfl ?_
      exact sJ_X8_judge_44 Z  (-12 : Int32) S10
    refine sm_bipush (pc := 37) (-11 : Int32) dX8_judge_37 (by decide) ?_
    refine sm_goto 44 (pc := 39) dX8_judge_39 rfl ?_
    refine sm_sub [] rfl ?_
    exact sJ_X8_judge_44 Z  (-11 : Int32) S10
  refine sm_sub [] rfl ?_
  exact sJ_X8_judge_16 Z  S10
set_option maxRecDepth 20000 in
set_option maxHeartbeats 4000000 in
theorem m_X8_judge (Z : ZT) (l : Launch) (c : Nat) (a1 : Int32) (a2 : Int32) (S : St) {r : Int32} {S' : St} (h : F_X8_judge c a1 a2 S = some (r, S')) : MetX Z l yX8_judge cX8_judge 5 (some .int) rm_X8_judge [.ref c, .int a1, .int a2] S (eI r) S' := Sim.met (by decide +kernel) rfl (Nat.le_of_ble_eq_true rfl) (s_X8_judge Z c a1 a2 S) l h
set_option maxRecDepth 20000 in
set_option maxHeartbeats 4000000 in
theorem s_X8_feed (Z : ZT) (c : Nat) (a1 : Int32) (S : St) : Sim eI Z rm_X8_feed RX8 cX8_feed 2 (some .int) 0 [(0, .ref c), (1, .int a1)] [] S (F_X8_feed c a1 S) := by
  unfold F_X8_feed
  refine sm_iload_n (pc := 0) dX8_feed_0 rfl 1 rfl ?_
  refine sm_i2l (pc := 1) dX8_feed_1 ?_
  refine sm_lconst (pc := 2) (0 : Int64) dX8_feed_2 (by decide) ?_
  refine sm_ldc2 (pc := 3) (255 : Int64) dX8_feed_3 kc_RX8_277 ?_
  refine sm_callSI (pc := 6) [.long (Int32.toInt64 a1), .long (0 : Int64), .long (255 : Int64)] (fun lq rq Sq hq => m_X8_in Z lq (Int32.toInt64 a1) (0 : Int64) (255 : Int64) S hq) dX8_feed_6 mi_X8_in ml_RX8_85 ⟨Nat.le_of_ble_eq_true rfl, Nat.le_of_ble_eq_true rfl, rfl, rfl⟩ rfl (Nat.le_of_ble_eq_true rfl) rfl (fun r6 S6 => ?_)
  refine sm_if_ne 14 (pc := 9) dX8_feed_9 rfl ?_ ?_
  · refine sm_aload_n (pc := 14) dX8_feed_14 rfl 0 rfl ?_
    refine sm_getI (pc := 15) dX8_feed_15 fr_RX8_279 (by decide) rfl (fun v15 => ?_)
    refine sm_bipush (pc := 18) (120 : Int32) dX8_feed_18 (by decide) ?_
    refine sm_icmp_ne 26 (pc := 20) dX8_feed_20 rfl ?_ ?_
    · refine sm_aload_n (pc := 26) dX8_feed_26 rfl 0 rfl ?_
      refine sm_getR (pc := 27) dX8_feed_27 fr_RX8_38 (by decide) rfl (fun v27 => ?_)
      refine sm_aload_n (pc := 30) dX8_feed_30 rfl 0 rfl ?_
      refine sm_dup (pc := 31) dX8_feed_31 rfl ?_
      refine sm_getI (pc := 32) dX8_feed_32 fr_RX8_279 (by decide) rfl (fun v32 => ?_)
      refine sm_dup_x1 (pc := 35) dX8_feed_35 rfl rfl ?_
      refine sm_iconst (pc := 36) (1 : Int32) dX8_feed_36 (by decide) ?_
      refine sm_iadd (pc := 37) dX8_feed_37 ?_
      refine sm_putI (pc := 38) dX8_feed_38 fw_RX8_279 (by decide) rfl (fun S38 => ?_)
      refine sm_iload_n (pc := 41) dX8_feed_41 rfl 1 rfl ?_
      refine sm_sI (pc := 42) dX8_feed_42 (fun S42 => ?_)
      refine sm_aload_n (pc := 43) dX8_feed_43 rfl 0 rfl ?_
      refine sm_getI (pc := 44) dX8_feed_44 fr_RX8_279 (by decide) rfl (fun v44 => ?_)
      exact sm_retI (pc := 47) dX8_feed_47
    refine sm_bipush (pc := 23) (-3 : Int32) dX8_feed_23 (by decide) ?_
    exact sm_retI (pc := 25) dX8_feed_25
  refine sm_iconst (pc := 12) (-1 : Int32) dX8_feed_12 (by decide) ?_
  exact sm_retI (pc := 13) dX8_feed_13
set_option maxRecDepth 20000 in
set_option maxHeartbeats 4000000 in
theorem m_X8_feed (Z : ZT) (l : Launch) (c : Nat) (a1 : Int32) (S : St) {r : Int32} {S' : St} (h : F_X8_feed c a1 S = some (r, S')) : MetX Z l yX8_feed cX8_feed 2 (some .int) rm_X8_feed [.ref c, .int a1] S (eI r) S' := Sim.met (by decide +kernel) rfl (Nat.le_of_ble_eq_true rfl) (s_X8_feed Z c a1 S) l h
set_option maxRecDepth 20000 in
set_option maxHeartbeats 4000000 in
theorem sJ_X8_sees_43 (Z : ZT)   (t0 : Int32) (S : St) : Sim eI Z rm_X8_sees RX8 cX8_sees 3 (some .boolean) 43 [] [.int t0] S (J_X8_sees_43  t0 S) := by
  unfold J_X8_sees_43
  exact sm_retZ (pc := 43) dX8_sees_43
set_option maxRecDepth 20000 in
set_option maxHeartbeats 4000000 in
theorem sJ_X8_sees_42 (Z : ZT)    (S : St) : Sim eI Z rm_X8_sees RX8 cX8_sees 3 (some .boolean) 42 [] [] S (J_X8_sees_42  S) := by
  unfold J_X8_sees_42
  refine sm_iconst (pc := 42) (0 : Int32) dX8_sees_42 (by decide) ?_
  refine sm_sub [] rfl ?_
  exact sJ_X8_sees_43 Z  (0 : Int32) S
set_option maxRecDepth 20000 in
set_option maxHeartbeats 4000000 in
theorem s_X8_sees (Z : ZT) (c : Nat) (a1 : Int32) (a2 : Int32) (S : St) : Sim eI Z rm_X8_sees RX8 cX8_sees 3 (some .boolean) 0 [(0, .ref c), (1, .int a1), (2, .int a2)] [] S (F_X8_sees c a1 a2 S) := by
  unfold F_X8_sees
  refine sm_aload_n (pc := 0) dX8_sees_0 rfl 0 rfl ?_
  refine sm_getI (pc := 1) dX8_sees_1 fr_RX8_282 (by decide) rfl (fun v1 => ?_)
  refine sm_if_ge 42 (pc := 4) dX8_sees_4 rfl ?_ ?_
  · refine sm_sub [] rfl ?_
    exact sJ_X8_sees_42 Z  S
  refine sm_aload_n (pc := 7) dX8_sees_7 rfl 0 rfl ?_
  refine sm_getI (pc := 8) dX8_sees_8 fr_RX8_285 (by decide) rfl (fun v8 => ?_)
  refine sm_aload_n (pc := 11) dX8_sees_11 rfl 0 rfl ?_
  refine sm_getI (pc := 12) dX8_sees_12 fr_RX8_279 (by decide) rfl (fun v12 => ?_)
  refine sm_icmp_ge 42 (pc := 15) dX8_sees_15 rfl ?_ ?_
  · refine sm_sub [] rfl ?_
    exact sJ_X8_sees_42 Z  S
  refine sm_aload_n (pc := 18) dX8_sees_18 rfl 0 rfl ?_
  refine sm_getR (pc := 19) dX8_sees_19 fr_RX8_38 (by decide) rfl (fun v19 => ?_)
  refine sm_aload_n (pc := 22) dX8_sees_22 rfl 0 rfl ?_
  refine sm_getI (pc := 23) dX8_sees_23 fr_RX8_285 (by decide) rfl (fun v23 => ?_)
  refine sm_aI (pc := 26) dX8_sees_26 (fun v26 => ?_)
  refine sm_i2l (pc := 27) dX8_sees_27 ?_
  refine sm_iload_n (pc := 28) dX8_sees_28 rfl 1 rfl ?_
  refine sm_i2l (pc := 29) dX8_sees_29 ?_
  refine sm_iload_n (pc := 30) dX8_sees_30 rfl 2 rfl ?_
  refine sm_i2l (pc := 31) dX8_sees_31 ?_
  refine sm_callSI (pc := 32) [.long (Int32.toInt64 v26), .long (Int32.toInt64 a1), .long (Int32.toInt64 a2)] (fun lq rq Sq hq => m_X8_in Z lq (Int32.toInt64 v26) (Int32.toInt64 a1) (Int32.toInt64 a2) S hq) dX8_sees_32 mi_X8_in ml_RX8_85 ⟨Nat.le_of_ble_eq_true rfl, Nat.le_of_ble_eq_true rfl, rfl, rfl⟩ rfl (Nat.le_of_ble_eq_true rfl) rfl (fun r32 S32 => ?_)
  refine sm_if_eq 42 (pc := 35) dX8_sees_35 rfl ?_ ?_
  · refine sm_sub [] rfl ?_
    exact sJ_X8_sees_42 Z  S32
  refine sm_iconst (pc := 38) (1 : Int32) dX8_sees_38 (by decide) ?_
  refine sm_goto 43 (pc := 39) dX8_sees_39 rfl ?_
  refine sm_sub [] rfl ?_
  exact sJ_X8_sees_43 Z  (1 : Int32) S32
set_option maxRecDepth 20000 in
set_option maxHeartbeats 4000000 in
theorem m_X8_sees (Z : ZT) (l : Launch) (c : Nat) (a1 : Int32) (a2 : Int32) (S : St) {r : Int32} {S' : St} (h : F_X8_sees c a1 a2 S = some (r, S')) : MetX Z l yX8_sees cX8_sees 3 (some .boolean) rm_X8_sees [.ref c, .int a1, .int a2] S (eI r) S' := Sim.met (by decide +kernel) rfl (Nat.le_of_ble_eq_true rfl) (s_X8_sees Z c a1 a2 S) l h
set_option maxRecDepth 20000 in
set_option maxHeartbeats 4000000 in
theorem sJ_X8_must_28 (Z : ZT)  (x1 : Int32) (t0 : Int32) (t1 : Nat) (S : St) : Sim eI Z rm_X8_must RX8 cX8_must 3 (some .int) 28 [(1, .int x1)] [.int t0, .ref t1] S (J_X8_must_28  x1 t0 t1 S) := by
  unfold J_X8_must_28
  refine sm_putI (pc := 28) dX8_must_28 fw_RX8_282 (by decide) rfl (fun S28 => ?_)
  refine sm_iload_n (pc := 31) dX8_must_31 rfl 0 rfl ?_
  exact sm_retI (pc := 32) dX8_must_32
set_option maxRecDepth 20000 in
set_option maxHeartbeats 4000000 in
theorem s_X8_must (Z : ZT) (c : Nat) (a1 : Int32) (a2 : Int32) (S : St) : Sim eI Z rm_X8_must RX8 cX8_must 3 (some .int) 0 [(0, .ref c), (1, .int a1), (2, .int a2)] [] S (F_X8_must c a1 a2 S) := by
  unfold F_X8_must
  refine sm_aload_n (pc := 0) dX8_must_0 rfl 0 rfl ?_
  refine sm_iload_n (pc := 1) dX8_must_1 rfl 1 rfl ?_
  refine sm_iload_n (pc := 2) dX8_must_2 rfl 2 rfl ?_
  refine sm_callVI (pc := 3) [.int a1, .int a2] (fun lq rq Sq hq => m_X8_sees Z lq c a1 a2 S hq) dX8_must_3 mi_X8_sees ml_RX8_288 ⟨Nat.le_of_ble_eq_true rfl, Nat.le_of_ble_eq_true rfl, rfl, rfl⟩ rfl (by decide) rfl (Nat.le_of_ble_eq_true rfl) rfl (fun r3 S3 => ?_)
  refine sm_if_ne 33 (pc := 6) dX8_must_6 rfl ?_ ?_
  · refine sm_aload_n (pc := 33) dX8_must_33 rfl 0 rfl ?_
    refine sm_getR (pc := 34) dX8_must_34 fr_RX8_38 (by decide) rfl (fun v34 => ?_)
    refine sm_aload_n (pc := 37) dX8_must_37 rfl 0 rfl ?_
    refine sm_dup (pc := 38) dX8_must_38 rfl ?_
    refine sm_getI (pc := 39) dX8_must_39 fr_RX8_285 (by decide) rfl (fun v39 => ?_)
    refine sm_dup_x1 (pc := 42) dX8_must_42 rfl rfl ?_
    refine sm_iconst (pc := 43) (1 : Int32) dX8_must_43 (by decide) ?_
    refine sm_iadd (pc := 44) dX8_must_44 ?_
    refine sm_putI (pc := 45) dX8_must_45 fw_RX8_285 (by decide) rfl (fun S45 => ?_)
    refine sm_aI (pc := 48) dX8_must_48 (fun v48 => ?_)
    exact sm_retI (pc := 49) dX8_must_49
  refine sm_aload_n (pc := 9) dX8_must_9 rfl 0 rfl ?_
  refine sm_aload_n (pc := 10) dX8_must_10 rfl 0 rfl ?_
  refine sm_getI (pc := 11) dX8_must_11 fr_RX8_282 (by decide) rfl (fun v11 => ?_)
  refine sm_if_ge 24 (pc := 14) dX8_must_14 rfl ?_ ?_
  · refine sm_aload_n (pc := 24) dX8_must_24 rfl 0 rfl ?_
    refine sm_getI (pc := 25) dX8_must_25 fr_RX8_282 (by decide) rfl (fun v25 => ?_)
    refine sm_sub [1] rfl ?_
    exact sJ_X8_must_28 Z  a1 v25 c S3
  refine sm_aload_n (pc := 17) dX8_must_17 rfl 0 rfl ?_
  refine sm_getI (pc := 18) dX8_must_18 fr_RX8_285 (by decide) rfl (fun v18 => ?_)
  refine sm_goto 28 (pc := 21) dX8_must_21 rfl ?_
  refine sm_sub [1] rfl ?_
  exact sJ_X8_must_28 Z  a1 v18 c S3
set_option maxRecDepth 20000 in
set_option maxHeartbeats 4000000 in
theorem m_X8_must (Z : ZT) (l : Launch) (c : Nat) (a1 : Int32) (a2 : Int32) (S : St) {r : Int32} {S' : St} (h : F_X8_must c a1 a2 S = some (r, S')) : MetX Z l yX8_must cX8_must 3 (some .int) rm_X8_must [.ref c, .int a1, .int a2] S (eI r) S' := Sim.met (by decide +kernel) rfl (Nat.le_of_ble_eq_true rfl) (s_X8_must Z c a1 a2 S) l h
set_option maxRecDepth 20000 in
set_option maxHeartbeats 4000000 in
theorem sJ_X8_number_71 (Z : ZT)  (x1 : Int32)  (S : St) : Sim eI Z rm_X8_number RX8 cX8_number 3 (some .int) 71 [(1, .int x1)] [] S (J_X8_number_71  x1 S) := by
  unfold J_X8_number_71
  refine sm_iload_n (pc := 71) dX8_number_71 rfl 0 rfl ?_
  exact sm_retI (pc := 72) dX8_number_72
set_option maxRecDepth 20000 in
set_option maxHeartbeats 4000000 in
theorem sB_X8_number_23 (Z : ZT) (rec23 : (Nat → Int32 → Int32 → St → Option (Int32 × St))) (h23 : ∀ (x0 : Nat) (x1 : Int32) (x2 : Int32)  (S : St), Sim eI Z rm_X8_number RX8 cX8_number 3 (some .int) 23 [(0, .ref x0), (1, .int x1), (2, .int x2)] [] S (rec23 x0 x1 x2 S)) (x0 : Nat) (x1 : Int32) (x2 : Int32)  (S : St) : Sim eI Z rm_X8_number RX8 cX8_number 3 (some .int) 23 [(0, .ref x0), (1, .int x1), (2, .int x2)] [] S (B_X8_number_23 rec23 x0 x1 x2 S) := by
  unfold B_X8_number_23
  refine sm_iload_n (pc := 23) dX8_number_23 rfl 2 rfl ?_
  refine sm_bipush (pc := 24) (8 : Int32) dX8_number_24 (by decide) ?_
  refine sm_icmp_ge 71 (pc := 26) dX8_number_26 rfl ?_ ?_
  · refine sm_sub [1] rfl ?_
    exact sJ_X8_number_71 Z  x1 S
  refine sm_aload_n (pc := 29) dX8_number_29 rfl 0 rfl ?_
  refine sm_bipush (pc := 30) (48 : Int32) dX8_number_30 (by decide) ?_
  refine sm_bipush (pc := 32) (57 : Int32) dX8_number_32 (by decide) ?_
  refine sm_callVI (pc := 34) [.int (48 : Int32), .int (57 : Int32)] (fun lq rq Sq hq => m_X8_sees Z lq x0 (48 : Int32) (57 : Int32) S hq) dX8_number_34 mi_X8_sees ml_RX8_288 ⟨Nat.le_of_ble_eq_true rfl, Nat.le_of_ble_eq_true rfl, rfl, rfl⟩ rfl (by decide) rfl (Nat.le_of_ble_eq_true rfl) rfl (fun r34 S34 => ?_)
  refine sm_if_eq 71 (pc := 37) dX8_number_37 rfl ?_ ?_
  · refine sm_sub [1] rfl ?_
    exact sJ_X8_number_71 Z  x1 S34
  refine sm_bipush (pc := 40) (10 : Int32) dX8_number_40 (by decide) ?_
  refine sm_iload_n (pc := 42) dX8_number_42 rfl 1 rfl ?_
  refine sm_imul (pc := 43) dX8_number_43 ?_
  refine sm_aload_n (pc := 44) dX8_number_44 rfl 0 rfl ?_
  refine sm_getR (pc := 45) dX8_number_45 fr_RX8_38 (by decide) rfl (fun v45 => ?_)
  refine sm_aload_n (pc := 48) dX8_number_48 rfl 0 rfl ?_
  refine sm_dup (pc := 49) dX8_number_49 rfl ?_
  refine sm_getI (pc := 50) dX8_number_50 fr_RX8_285 (by decide) rfl (fun v50 => ?_)
  refine sm_dup_x1 (pc := 53) dX8_number_53 rfl rfl ?_
  refine sm_iconst (pc := 54) (1 : Int32) dX8_number_54 (by decide) ?_
  refine sm_iadd (pc := 55) dX8_number_55 ?_
  refine sm_putI (pc := 56) dX8_number_56 fw_RX8_285 (by decide) rfl (fun S56 => ?_)
  refine sm_aI (pc := 59) dX8_number_59 (fun v59 => ?_)
  refine sm_iadd (pc := 60) dX8_number_60 ?_
  refine sm_bipush (pc := 61) (48 : Int32) dX8_number_61 (by decide) ?_
  refine sm_isub (pc := 63) dX8_number_63 ?_
  refine sm_bdI (fun v64 => ?_)
  refine sm_istore_n (pc := 64) (lv' := [(1, .int v64), (0, .ref x0), (2, .int x2)]) dX8_number_64 rfl (by decide) rfl ?_
  refine sm_iinc (pc := 65) (x2 + 1) (lv' := [(2, .int (x2 + 1)), (1, .int v64), (0, .ref x0)]) dX8_number_65 2 rfl rfl (by decide) rfl ?_
  refine sm_goto 23 (pc := 68) dX8_number_68 rfl ?_
  refine sm_sub [2, 1, 0] rfl ?_
  exact h23 x0 v64 (x2 + 1) S56
set_option maxRecDepth 20000 in
set_option maxHeartbeats 4000000 in
theorem sL_X8_number_23 (Z : ZT)  (n : Nat) : ∀ (x0 : Nat) (x1 : Int32) (x2 : Int32)  (S : St), Sim eI Z rm_X8_number RX8 cX8_number 3 (some .int) 23 [(0, .ref x0), (1, .int x1), (2, .int x2)] [] S (L_X8_number_23  n x0 x1 x2 S) := by
  induction n with
  | zero => intros; exact sm_none
  | succ n ih => intro x0 x1 x2 S; exact sB_X8_number_23 Z  (L_X8_number_23  n) ih x0 x1 x2 S
set_option maxRecDepth 20000 in
set_option maxHeartbeats 4000000 in
theorem s_X8_number (Z : ZT) (c : Nat) (S : St) : Sim eI Z rm_X8_number RX8 cX8_number 3 (some .int) 0 [(0, .ref c)] [] S (F_X8_number c S) := by
  unfold F_X8_number
  refine sm_aload_n (pc := 0) dX8_number_0 rfl 0 rfl ?_
  refine sm_bipush (pc := 1) (32 : Int32) dX8_number_1 (by decide) ?_
  refine sm_bipush (pc := 3) (32 : Int32) dX8_number_3 (by decide) ?_
  refine sm_callVI (pc := 5) [.int (32 : Int32), .int (32 : Int32)] (fun lq rq Sq hq => m_X8_must Z lq c (32 : Int32) (32 : Int32) S hq) dX8_number_5 mi_X8_must ml_RX8_292 ⟨Nat.le_of_ble_eq_true rfl, Nat.le_of_ble_eq_true rfl, rfl, rfl⟩ rfl (by decide) rfl (Nat.le_of_ble_eq_true rfl) rfl (fun r5 S5 => ?_)
  refine sm_pop (pc := 8) dX8_number_8 rfl ?_
  refine sm_aload_n (pc := 9) dX8_number_9 rfl 0 rfl ?_
  refine sm_bipush (pc := 10) (48 : Int32) dX8_number_10 (by decide) ?_
  refine sm_bipush (pc := 12) (57 : Int32) dX8_number_12 (by decide) ?_
  refine sm_callVI (pc := 14) [.int (48 : Int32), .int (57 : Int32)] (fun lq rq Sq hq => m_X8_must Z lq c (48 : Int32) (57 : Int32) S5 hq) dX8_number_14 mi_X8_must ml_RX8_292 ⟨Nat.le_of_ble_eq_true rfl, Nat.le_of_ble_eq_true rfl, rfl, rfl⟩ rfl (by decide) rfl (Nat.le_of_ble_eq_true rfl) rfl (fun r14 S14 => ?_)
  refine sm_bipush (pc := 17) (48 : Int32) dX8_number_17 (by decide) ?_
  refine sm_isub (pc := 19) dX8_number_19 ?_
  refine sm_bdI (fun v20 => ?_)
  refine sm_istore_n (pc := 20) (lv' := [(1, .int v20), (0, .ref c)]) dX8_number_20 rfl (by decide) rfl ?_
  refine sm_iconst (pc := 21) (0 : Int32) dX8_number_21 (by decide) ?_
  refine sm_istore_n (pc := 22) (lv' := [(2, .int (0 : Int32)), (1, .int v20), (0, .ref c)]) dX8_number_22 rfl (by decide) rfl ?_
  refine sm_sub [2, 1, 0] rfl ?_
  exact sL_X8_number_23 Z  6000 c v20 (0 : Int32) S14
set_option maxRecDepth 20000 in
set_option maxHeartbeats 4000000 in
theorem m_X8_number (Z : ZT) (l : Launch) (c : Nat) (S : St) {r : Int32} {S' : St} (h : F_X8_number c S = some (r, S')) : MetX Z l yX8_number cX8_number 3 (some .int) rm_X8_number [.ref c] S (eI r) S' := Sim.met (by decide +kernel) rfl (Nat.le_of_ble_eq_true rfl) (s_X8_number Z c S) l h
