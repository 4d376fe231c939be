set_option maxRecDepth 20000 in
set_option maxHeartbeats 4000000 in
theorem s_X7_sum (Z : ZT) (c : Nat) (a1 : Int32) (a2 : Int32) (S : St) : Sim eL Z rm_X7_sum RX7 cX7_sum 4 (some .long) 0 [(0, .ref c), (1, .int a1), (2, .int a2)] [] S (F_X7_sum c a1 a2 S) := by
  unfold F_X7_sum
  refine sm_aload_n (pc := 0) dX7_sum_0 rfl 0 rfl ?_
  refine sm_getR (pc := 1) dX7_sum_1 fr_RX7_10 (by decide) rfl (fun v1 => ?_)
  refine sm_iload_n (pc := 4) dX7_sum_4 rfl 1 rfl ?_
  refine sm_callVI (pc := 5) [.int a1] (fun lq rq Sq hq => m_X1_has Z lq v1 a1 S hq) dX7_sum_5 mi_X1_has ml_RX7_101 ⟨Nat.le_of_ble_eq_true rfl, Nat.le_of_ble_eq_true rfl, rfl, rfl⟩ rfl (by decide) rfl (Nat.le_of_ble_eq_true rfl) rfl (fun r5 S5 => ?_)
  refine sm_if_ne 15 (pc := 8) dX7_sum_8 rfl ?_ ?_
  · refine sm_aload_n (pc := 15) dX7_sum_15 rfl 0 rfl ?_
    refine sm_getR (pc := 16) dX7_sum_16 fr_RX7_10 (by decide) rfl (fun v16 => ?_)
    refine sm_getR (pc := 19) dX7_sum_19 fr_RX7_108 (by decide) rfl (fun v19 => ?_)
    refine sm_iload_n (pc := 22) dX7_sum_22 rfl 1 rfl ?_
    refine sm_aR (pc := 23) dX7_sum_23 (by decide) (fun v23 => ?_)
    refine sm_astore_n (pc := 24) (lv' := [(3, .ref v23), (0, .ref c), (1, .int a1), (2, .int a2)]) dX7_sum_24 rfl (by decide) rfl ?_
    refine sm_iload_n (pc := 25) dX7_sum_25 rfl 3 rfl ?_
    refine sm_tswk (pc := 26) 132 [76, 81, 86, 91, 96, 101, 106, 111, 116] [0, 1, 2, 3, 4, 5, 6, 7, 8] dX7_sum_26 rfl (by decide) (by decide) (by decide) rfl ⟨?_, ?_, ?_, ?_, ?_, ?_, ?_, ?_, ?_, trivial⟩ ?_
    · refine sm_aload_n (pc := 76) dX7_sum_76 rfl 0 rfl ?_
      refine sm_getL (pc := 77) dX7_sum_77 fr_RX7_168 (by decide) rfl (fun v77 => ?_)
      exact sm_retL (pc := 80) dX7_sum_80
    · refine sm_aload_n (pc := 81) dX7_sum_81 rfl 0 rfl ?_
      refine sm_getL (pc := 82) dX7_sum_82 fr_RX7_171 (by decide) rfl (fun v82 => ?_)
      exact sm_retL (pc := 85) dX7_sum_85
    · refine sm_aload_n (pc := 86) dX7_sum_86 rfl 0 rfl ?_
      refine sm_getL (pc := 87) dX7_sum_87 fr_RX7_122 (by decide) rfl (fun v87 => ?_)
      exact sm_retL (pc := 90) dX7_sum_90
    · refine sm_aload_n (pc := 91) dX7_sum_91 rfl 0 rfl ?_
      refine sm_callVL (pc := 92) [] (fun lq rq Sq hq => m_X4_owed Z lq v23 S5 hq) dX7_sum_92 mi_X4_owed ml_RX7_174 ⟨Nat.le_of_ble_eq_true rfl, Nat.le_of_ble_eq_true rfl, rfl, rfl⟩ rfl (by decide) rfl (Nat.le_of_ble_eq_true rfl) rfl (fun r92 S92 => ?_)
      exact sm_retL (pc := 95) dX7_sum_95
    · refine sm_aload_n (pc := 96) dX7_sum_96 rfl 0 rfl ?_
      refine sm_getL (pc := 97) dX7_sum_97 fr_RX7_177 (by decide) rfl (fun v97 => ?_)
      exact sm_retL (pc := 100) dX7_sum_100
    · refine sm_aload_n (pc := 101) dX7_sum_101 rfl 0 rfl ?_
      refine sm_getL (pc := 102) dX7_sum_102 fr_RX7_180 (by decide) rfl (fun v102 => ?_)
      exact sm_retL (pc := 105) dX7_sum_105
    · refine sm_aload_n (pc := 106) dX7_sum_106 rfl 0 rfl ?_
      refine sm_getL (pc := 107) dX7_sum_107 fr_RX7_183 (by decide) rfl (fun v107 => ?_)
      exact sm_retL (pc := 110) dX7_sum_110
    · refine sm_aload_n (pc := 111) dX7_sum_111 rfl 0 rfl ?_
      refine sm_getL (pc := 112) dX7_sum_112 fr_RX7_186 (by decide) rfl (fun v112 => ?_)
      exact sm_retL (pc := 115) dX7_sum_115
    · refine sm_aload_n (pc := 116) dX7_sum_116 rfl 1 rfl ?_
      refine sm_getR (pc := 117) dX7_sum_117 fr_RX7_36 (by decide) rfl (fun v117 => ?_)
      refine sm_aload_n (pc := 120) dX7_sum_120 rfl 0 rfl ?_
      refine sm_callVV (pc := 121) [.ref v23] (fun lq rq Sq hq => m_X5_follow Z lq v117 v23 S5 hq) dX7_sum_121 mi_X5_follow ml_RX7_189 ⟨Nat.le_of_ble_eq_true rfl, Nat.le_of_ble_eq_true rfl, rfl, rfl⟩ rfl (by decide) rfl (Nat.le_of_ble_eq_true rfl) rfl (fun _ S121 => ?_)
      refine sm_aload_n (pc := 124) dX7_sum_124 rfl 1 rfl ?_
      refine sm_getR (pc := 125) dX7_sum_125 fr_RX7_36 (by decide) rfl (fun v125 => ?_)
      refine sm_callVL (pc := 128) [] (fun lq rq Sq hq => m_X5_totalInterest Z lq v125 S121 hq) dX7_sum_128 mi_X5_totalInterest ml_RX7_193 ⟨Nat.le_of_ble_eq_true rfl, Nat.le_of_ble_eq_true rfl, rfl, rfl⟩ rfl (by decide) rfl (Nat.le_of_ble_eq_true rfl) rfl (fun r128 S128 => ?_)
      exact sm_retL (pc := 131) dX7_sum_131
    refine sm_ldc2 (pc := 132) (-1 : Int64) dX7_sum_132 kc_RX7_79 ?_
    exact sm_retL (pc := 135) dX7_sum_135
  refine sm_ldc2 (pc := 11) (-1 : Int64) dX7_sum_11 kc_RX7_79 ?_
  exact sm_retL (pc := 14) dX7_sum_14
set_option maxRecDepth 20000 in
set_option maxHeartbeats 4000000 in
theorem m_X7_sum (Z : ZT) (l : Launch) (c : Nat) (a1 : Int32) (a2 : Int32) (S : St) {r : Int64} {S' : St} (h : F_X7_sum c a1 a2 S = some (r, S')) : MetX Z l yX7_sum cX7_sum 4 (some .long) rm_X7_sum [.ref c, .int a1, .int a2] S (eL r) S' := Sim.met (by decide +kernel) rfl (Nat.le_of_ble_eq_true rfl) (s_X7_sum Z c a1 a2 S) l h
set_option maxRecDepth 20000 in
set_option maxHeartbeats 4000000 in
theorem sJ_X7_bill_24 (Z : ZT)    (S : St) : Sim eL Z rm_X7_bill RX7 cX7_bill 6 (some .long) 24 [] [] S (J_X7_bill_24  S) := by
  unfold J_X7_bill_24
  refine sm_ldc2 (pc := 24) (-1 : Int64) dX7_bill_24 kc_RX7_79 ?_
  exact sm_retL (pc := 27) dX7_bill_27
set_option maxRecDepth 20000 in
set_option maxHeartbeats 4000000 in
theorem s_X7_bill (Z : ZT) (c : Nat) (a1 : Int32) (a2 : Int32) (a3 : Int32) (S : St) : Sim eL Z rm_X7_bill RX7 cX7_bill 6 (some .long) 0 [(0, .ref c), (1, .int a1), (2, .int a2), (3, .int a3)] [] S (F_X7_bill c a1 a2 a3 S) := by
  unfold F_X7_bill
  refine sm_aload_n (pc := 0) dX7_bill_0 rfl 0 rfl ?_
  refine sm_getR (pc := 1) dX7_bill_1 fr_RX7_10 (by decide) rfl (fun v1 => ?_)
  refine sm_iload_n (pc := 4) dX7_bill_4 rfl 1 rfl ?_
  refine sm_callVI (pc := 5) [.int a1] (fun lq rq Sq hq => m_X1_has Z lq v1 a1 S hq) dX7_bill_5 mi_X1_has ml_RX7_101 ⟨Nat.le_of_ble_eq_true rfl, Nat.le_of_ble_eq_true rfl, rfl, rfl⟩ rfl (by decide) rfl (Nat.le_of_ble_eq_true rfl) rfl (fun r5 S5 => ?_)
  refine sm_if_eq 24 (pc := 8) dX7_bill_8 rfl ?_ ?_
  · refine sm_sub [] rfl ?_
    exact sJ_X7_bill_24 Z  S5
  refine sm_iload_n (pc := 11) dX7_bill_11 rfl 2 rfl ?_
  refine sm_if_lt 24 (pc := 12) dX7_bill_12 rfl ?_ ?_
  · refine sm_sub [] rfl ?_
    exact sJ_X7_bill_24 Z  S5
  refine sm_iload_n (pc := 15) dX7_bill_15 rfl 3 rfl ?_
  refine sm_iconst (pc := 16) (0 : Int32) dX7_bill_16 (by decide) ?_
  refine sm_iconst (pc := 17) (3 : Int32) dX7_bill_17 (by decide) ?_
  refine sm_callSI (pc := 18) [.int a3, .int (0 : Int32), .int (3 : Int32)] (fun lq rq Sq hq => m_X7_isWithin Z lq a3 (0 : Int32) (3 : Int32) S5 hq) dX7_bill_18 mi_X7_isWithin ml_RX7_67 ⟨Nat.le_of_ble_eq_true rfl, Nat.le_of_ble_eq_true rfl, rfl, rfl⟩ rfl (Nat.le_of_ble_eq_true rfl) rfl (fun r18 S18 => ?_)
  refine sm_if_ne 28 (pc := 21) dX7_bill_21 rfl ?_ ?_
  · refine sm_aload_n (pc := 28) dX7_bill_28 rfl 0 rfl ?_
    refine sm_getR (pc := 29) dX7_bill_29 fr_RX7_10 (by decide) rfl (fun v29 => ?_)
    refine sm_getR (pc := 32) dX7_bill_32 fr_RX7_108 (by decide) rfl (fun v32 => ?_)
    refine sm_iload_n (pc := 35) dX7_bill_35 rfl 1 rfl ?_
    refine sm_aR (pc := 36) dX7_bill_36 (by decide) (fun v36 => ?_)
    refine sm_astore (pc := 37) (lv' := [(4, .ref v36), (0, .ref c), (1, .int a1), (2, .int a2), (3, .int a3)]) dX7_bill_37 (by decide) rfl ?_
    refine sm_aload (pc := 39) dX7_bill_39 0 rfl ?_
    refine sm_iload_n (pc := 41) dX7_bill_41 rfl 3 rfl ?_
    refine sm_callVI (pc := 42) [.int a2] (fun lq rq Sq hq => m_X4_periodOfBill Z lq v36 a2 S18 hq) dX7_bill_42 mi_X4_periodOfBill ml_RX7_196 ⟨Nat.le_of_ble_eq_true rfl, Nat.le_of_ble_eq_true rfl, rfl, rfl⟩ rfl (by decide) rfl (Nat.le_of_ble_eq_true rfl) rfl (fun r42 S42 => ?_)
    refine sm_istore (pc := 45) (lv' := [(5, .int r42), (4, .ref v36), (0, .ref c), (1, .int a1), (2, .int a2), (3, .int a3)]) dX7_bill_45 (by decide) rfl ?_
    refine sm_iload (pc := 47) dX7_bill_47 0 rfl ?_
    refine sm_if_ne 56 (pc := 49) dX7_bill_49 rfl ?_ ?_
    · refine sm_iload_n (pc := 56) dX7_bill_56 rfl 5 rfl ?_
      refine sm_tswk (pc := 57) 112 [84, 94, 103] [0, 1, 2] dX7_bill_57 rfl (by decide) (by decide) (by decide) rfl ⟨?_, ?_, ?_, trivial⟩ ?_
      · refine sm_aload (pc := 84) dX7_bill_84 1 rfl ?_
        refine sm_getR (pc := 86) dX7_bill_86 fr_RX7_154 (by decide) rfl (fun v86 => ?_)
        refine sm_iload (pc := 89) dX7_bill_89 0 rfl ?_
        refine sm_aI (pc := 91) dX7_bill_91 (fun v91 => ?_)
        refine sm_i2l (pc := 92) dX7_bill_92 ?_
        exact sm_retL (pc := 93) dX7_bill_93
      · refine sm_aload (pc := 94) dX7_bill_94 1 rfl ?_
        refine sm_getR (pc := 96) dX7_bill_96 fr_RX7_201 (by decide) rfl (fun v96 => ?_)
        refine sm_iload (pc := 99) dX7_bill_99 0 rfl ?_
        refine sm_aJ (pc := 101) dX7_bill_101 (fun v101 => ?_)
        exact sm_retL (pc := 102) dX7_bill_102
      · refine sm_aload (pc := 103) dX7_bill_103 1 rfl ?_
        refine sm_getR (pc := 105) dX7_bill_105 fr_RX7_205 (by decide) rfl (fun v105 => ?_)
        refine sm_iload (pc := 108) dX7_bill_108 0 rfl ?_
        refine sm_aJ (pc := 110) dX7_bill_110 (fun v110 => ?_)
        exact sm_retL (pc := 111) dX7_bill_111
      refine sm_aload (pc := 112) dX7_bill_112 1 rfl ?_
      refine sm_getR (pc := 114) dX7_bill_114 fr_RX7_208 (by decide) rfl (fun v114 => ?_)
      refine sm_iload (pc := 117) dX7_bill_117 0 rfl ?_
      refine sm_aJ (pc := 119) dX7_bill_119 (fun v119 => ?_)
      exact sm_retL (pc := 120) dX7_bill_120
    refine sm_ldc2 (pc := 52) (-2 : Int64) dX7_bill_52 kc_RX7_199 ?_
    exact sm_retL (pc := 55) dX7_bill_55
  refine sm_sub [] rfl ?_
  exact sJ_X7_bill_24 Z  S18
set_option maxRecDepth 20000 in
set_option maxHeartbeats 4000000 in
theorem m_X7_bill (Z : ZT) (l : Launch) (c : Nat) (a1 : Int32) (a2 : Int32) (a3 : Int32) (S : St) {r : Int64} {S' : St} (h : F_X7_bill c a1 a2 a3 S = some (r, S')) : MetX Z l yX7_bill cX7_bill 6 (some .long) rm_X7_bill [.ref c, .int a1, .int a2, .int a3] S (eL r) S' := Sim.met (by decide +kernel) rfl (Nat.le_of_ble_eq_true rfl) (s_X7_bill Z c a1 a2 a3 S) l h
set_option maxRecDepth 20000 in
set_option maxHeartbeats 4000000 in
theorem sJ_X7_toCome_24 (Z : ZT)    (S : St) : Sim eL Z rm_X7_toCome RX7 cX7_toCome 5 (some .long) 24 [] [] S (J_X7_toCome_24  S) := by
  unfold J_X7_toCome_24
  refine sm_ldc2 (pc := 24) (-1 : Int64) dX7_toCome_24 kc_RX7_79 ?_
  exact sm_retL (pc := 27) dX7_toCome_27
set_option maxRecDepth 20000 in
set_option maxHeartbeats 4000000 in
theorem s_X7_toCome (Z : ZT) (c : Nat) (a1 : Int32) (a2 : Int32) (a3 : Int32) (S : St) : Sim eL Z rm_X7_toCome RX7 cX7_toCome 5 (some .long) 0 [(0, .ref c), (1, .int a1), (2, .int a2), (3, .int a3)] [] S (F_X7_toCome c a1 a2 a3 S) := by
  unfold F_X7_toCome
  refine sm_aload_n (pc := 0) dX7_toCome_0 rfl 0 rfl ?_
  refine sm_getR (pc := 1) dX7_toCome_1 fr_RX7_10 (by decide) rfl (fun v1 => ?_)
  refine sm_iload_n (pc := 4) dX7_toCome_4 rfl 1 rfl ?_
  refine sm_callVI (pc := 5) [.int a1] (fun lq rq Sq hq => m_X1_has Z lq v1 a1 S hq) dX7_toCome_5 mi_X1_has ml_RX7_101 ⟨Nat.le_of_ble_eq_true rfl, Nat.le_of_ble_eq_true rfl, rfl, rfl⟩ rfl (by decide) rfl (Nat.le_of_ble_eq_true rfl) rfl (fun r5 S5 => ?_)
  refine sm_if_eq 24 (pc := 8) dX7_toCome_8 rfl ?_ ?_
  · refine sm_sub [] rfl ?_
    exact sJ_X7_toCome_24 Z  S5
  refine sm_iload_n (pc := 11) dX7_toCome_11 rfl 2 rfl ?_
  refine sm_if_lt 24 (pc := 12) dX7_toCome_12 rfl ?_ ?_
  · refine sm_sub [] rfl ?_
    exact sJ_X7_toCome_24 Z  S5
  refine sm_iload_n (pc := 15) dX7_toCome_15 rfl 3 rfl ?_
  refine sm_iconst (pc := 16) (0 : Int32) dX7_toCome_16 (by decide) ?_
  refine sm_iconst (pc := 17) (3 : Int32) dX7_toCome_17 (by decide) ?_
  refine sm_callSI (pc := 18) [.int a3, .int (0 : Int32), .int (3 : Int32)] (fun lq rq Sq hq => m_X7_isWithin Z lq a3 (0 : Int32) (3 : Int32) S5 hq) dX7_toCome_18 mi_X7_isWithin ml_RX7_67 ⟨Nat.le_of_ble_eq_true rfl, Nat.le_of_ble_eq_true rfl, rfl, rfl⟩ rfl (Nat.le_of_ble_eq_true rfl) rfl (fun r18 S18 => ?_)
  refine sm_if_ne 28 (pc := 21) dX7_toCome_21 rfl ?_ ?_
  · refine sm_aload_n (pc := 28) dX7_toCome_28 rfl 0 rfl ?_
    refine sm_getR (pc := 29) dX7_toCome_29 fr_RX7_36 (by decide) rfl (fun v29 => ?_)
    refine sm_aload_n (pc := 32) dX7_toCome_32 rfl 0 rfl ?_
    refine sm_getR (pc := 33) dX7_toCome_33 fr_RX7_10 (by decide) rfl (fun v33 => ?_)
    refine sm_getR (pc := 36) dX7_toCome_36 fr_RX7_108 (by decide) rfl (fun v36 => ?_)
    refine sm_iload_n (pc := 39) dX7_toCome_39 rfl 1 rfl ?_
    refine sm_aR (pc := 40) dX7_toCome_40 (by decide) (fun v40 => ?_)
    refine sm_callVV (pc := 41) [.ref v40] (fun lq rq Sq hq => m_X5_follow Z lq v29 v40 S18 hq) dX7_toCome_41 mi_X5_follow ml_RX7_189 ⟨Nat.le_of_ble_eq_true rfl, Nat.le_of_ble_eq_true rfl, rfl, rfl⟩ rfl (by decide) rfl (Nat.le_of_ble_eq_true rfl) rfl (fun _ S41 => ?_)
    refine sm_aload_n (pc := 44) dX7_toCome_44 rfl 0 rfl ?_
    refine sm_getR (pc := 45) dX7_toCome_45 fr_RX7_36 (by decide) rfl (fun v45 => ?_)
    refine sm_iload_n (pc := 48) dX7_toCome_48 rfl 2 rfl ?_
    refine sm_callVI (pc := 49) [.int a2] (fun lq rq Sq hq => m_X5_periodOfBill Z lq v45 a2 S41 hq) dX7_toCome_49 mi_X5_periodOfBill ml_RX7_211 ⟨Nat.le_of_ble_eq_true rfl, Nat.le_of_ble_eq_true rfl, rfl, rfl⟩ rfl (by decide) rfl (Nat.le_of_ble_eq_true rfl) rfl (fun r49 S49 => ?_)
    refine sm_istore (pc := 52) (lv' := [(4, .int r49), (0, .ref c), (1, .int a1), (2, .int a2), (3, .int a3)]) dX7_toCome_52 (by decide) rfl ?_
    refine sm_iload (pc := 54) dX7_toCome_54 0 rfl ?_
    refine sm_if_ne 63 (pc := 56) dX7_toCome_56 rfl ?_ ?_
    · refine sm_iload_n (pc := 63) dX7_toCome_63 rfl 4 rfl ?_
      refine sm_tswk (pc := 64) 131 [92, 109, 120] [0, 1, 2] dX7_toCome_64 rfl (by decide) (by decide) (by decide) rfl ⟨?_, ?_, ?_, trivial⟩ ?_
      · refine sm_aload_n (pc := 92) dX7_toCome_92 rfl 1 rfl ?_
        refine sm_getR (pc := 93) dX7_toCome_93 fr_RX7_10 (by decide) rfl (fun v93 => ?_)
        refine sm_getR (pc := 96) dX7_toCome_96 fr_RX7_108 (by decide) rfl (fun v96 => ?_)
        refine sm_iload_n (pc := 99) dX7_toCome_99 rfl 2 rfl ?_
        refine sm_aR (pc := 100) dX7_toCome_100 (by decide) (fun v100 => ?_)
        refine sm_getR (pc := 101) dX7_toCome_101 fr_RX7_154 (by decide) rfl (fun v101 => ?_)
        refine sm_iload (pc := 104) dX7_toCome_104 0 rfl ?_
        refine sm_aI (pc := 106) dX7_toCome_106 (fun v106 => ?_)
        refine sm_i2l (pc := 107) dX7_toCome_107 ?_
        exact sm_retL (pc := 108) dX7_toCome_108
      · refine sm_aload_n (pc := 109) dX7_toCome_109 rfl 1 rfl ?_
        refine sm_getR (pc := 110) dX7_toCome_110 fr_RX7_36 (by decide) rfl (fun v110 => ?_)
        refine sm_getR (pc := 113) dX7_toCome_113 fr_RX7_212 (by decide) rfl (fun v113 => ?_)
        refine sm_iload (pc := 116) dX7_toCome_116 0 rfl ?_
        refine sm_aJ (pc := 118) dX7_toCome_118 (fun v118 => ?_)
        exact sm_retL (pc := 119) dX7_toCome_119
      · refine sm_aload_n (pc := 120) dX7_toCome_120 rfl 1 rfl ?_
        refine sm_getR (pc := 121) dX7_toCome_121 fr_RX7_36 (by decide) rfl (fun v121 => ?_)
        refine sm_getR (pc := 124) dX7_toCome_124 fr_RX7_215 (by decide) rfl (fun v124 => ?_)
        refine sm_iload (pc := 127) dX7_toCome_127 0 rfl ?_
        refine sm_aJ (pc := 129) dX7_toCome_129 (fun v129 => ?_)
        exact sm_retL (pc := 130) dX7_toCome_130
      refine sm_aload_n (pc := 131) dX7_toCome_131 rfl 1 rfl ?_
      refine sm_getR (pc := 132) dX7_toCome_132 fr_RX7_36 (by decide) rfl (fun v132 => ?_)
      refine sm_getR (pc := 135) dX7_toCome_135 fr_RX7_218 (by decide) rfl (fun v135 => ?_)
      refine sm_iload (pc := 138) dX7_toCome_138 0 rfl ?_
      refine sm_aJ (pc := 140) dX7_toCome_140 (fun v140 => ?_)
      exact sm_retL (pc := 141) dX7_toCome_141
    refine sm_ldc2 (pc := 59) (-2 : Int64) dX7_toCome_59 kc_RX7_199 ?_
    exact sm_retL (pc := 62) dX7_toCome_62
  refine sm_sub [] rfl ?_
  exact sJ_X7_toCome_24 Z  S18
set_option maxRecDepth 20000 in
set_option maxHeartbeats 4000000 in
theorem m_X7_toCome (Z : ZT) (l : Launch) (c : Nat) (a1 : Int32) (a2 : Int32) (a3 : Int32) (S : St) {r : Int64} {S' : St} (h : F_X7_toCome c a1 a2 a3 S = some (r, S')) : MetX Z l yX7_toCome cX7_toCome 5 (some .long) rm_X7_toCome [.ref c, .int a1, .int a2, .int a3] S (eL r) S' := Sim.met (by decide +kernel) rfl (Nat.le_of_ble_eq_true rfl) (s_X7_toCome Z c a1 a2 a3 S) l h
set_option maxRecDepth 20000 in
set_option maxHeartbeats 4000000 in
theorem sJ_X7_coming_100 (Z : ZT)   (t0 : Int64) (S : St) : Sim eL Z rm_X7_coming RX7 cX7_coming 5 (some .long) 100 [] [.long t0] S (J_X7_coming_100  t0 S) := by
  unfold J_X7_coming_100
  exact sm_retL (pc := 100) dX7_coming_100
set_option maxRecDepth 20000 in
set_option maxHeartbeats 4000000 in
theorem s_X7_coming (Z : ZT) (c : Nat) (a1 : Int32) (a2 : Int32) (S : St) : Sim eL Z rm_X7_coming RX7 cX7_coming 5 (some .long) 0 [(0, .ref c), (1, .int a1), (2, .int a2)] [] S (F_X7_coming c a1 a2 S) := by
  unfold F_X7_coming
  refine sm_aload_n (pc := 0) dX7_coming_0 rfl 0 rfl ?_
  refine sm_getR (pc := 1) dX7_coming_1 fr_RX7_10 (by decide) rfl (fun v1 => ?_)
  refine sm_iload_n (pc := 4) dX7_coming_4 rfl 1 rfl ?_
  refine sm_callVI (pc := 5) [.int a1] (fun lq rq Sq hq => m_X1_has Z lq v1 a1 S hq) dX7_coming_5 mi_X1_has ml_RX7_101 ⟨Nat.le_of_ble_eq_true rfl, Nat.le_of_ble_eq_true rfl, rfl, rfl⟩ rfl (by decide) rfl (Nat.le_of_ble_eq_true rfl) rfl (fun r5 S5 => ?_)
  refine sm_if_ne 15 (pc := 8) dX7_coming_8 rfl ?_ ?_
  · refine sm_aload_n (pc := 15) dX7_coming_15 rfl 0 rfl ?_
    refine sm_getR (pc := 16) dX7_coming_16 fr_RX7_10 (by decide) rfl (fun v16 => ?_)
    refine sm_getR (pc := 19) dX7_coming_19 fr_RX7_108 (by decide) rfl (fun v19 => ?_)
    refine sm_iload_n (pc := 22) dX7_coming_22 rfl 1 rfl ?_
    refine sm_aR (pc := 23) dX7_coming_23 (by decide) (fun v23 => ?_)
    refine sm_astore_n (pc := 24) (lv' := [(3, .ref v23), (0, .ref c), (1, .int a1), (2, .int a2)]) dX7_coming_24 rfl (by decide) rfl ?_
    refine sm_aload_n (pc := 25) dX7_coming_25 rfl 1 rfl ?_
    refine sm_getR (pc := 26) dX7_coming_26 fr_RX7_36 (by decide) rfl (fun v26 => ?_)
    refine sm_aload_n (pc := 29) dX7_coming_29 rfl 0 rfl ?_
    refine sm_callVV (pc := 30) [.ref v23] (fun lq rq Sq hq => m_X5_follow Z lq v26 v23 S5 hq) dX7_coming_30 mi_X5_follow ml_RX7_189 ⟨Nat.le_of_ble_eq_true rfl, Nat.le_of_ble_eq_true rfl, rfl, rfl⟩ rfl (by decide) rfl (Nat.le_of_ble_eq_true rfl) rfl (fun _ S30 => ?_)
    refine sm_aload_n (pc := 33) dX7_coming_33 rfl 1 rfl ?_
    refine sm_getR (pc := 34) dX7_coming_34 fr_RX7_36 (by decide) rfl (fun v34 => ?_)
    refine sm_callVI (pc := 37) [] (fun lq rq Sq hq => m_X5_bills Z lq v34 S30 hq) dX7_coming_37 mi_X5_bills ml_RX7_220 ⟨Nat.le_of_ble_eq_true rfl, Nat.le_of_ble_eq_true rfl, rfl, rfl⟩ rfl (by decide) rfl (Nat.le_of_ble_eq_true rfl) rfl (fun r37 S37 => ?_)
    refine sm_istore (pc := 40) (lv' := [(4, .int r37), (3, .ref v23), (0, .ref c), (1, .int a1), (2, .int a2)]) dX7_coming_40 (by decide) rfl ?_
    refine sm_iload_n (pc := 42) dX7_coming_42 rfl 4 rfl ?_
    refine sm_tswk (pc := 43) 109 [68, 72, 101] [0, 1, 2] dX7_coming_43 rfl (by decide) (by decide) (by decide) rfl ⟨?_, ?_, ?_, trivial⟩ ?_
    · refine sm_iload (pc := 68) dX7_coming_68 0 rfl ?_
      refine sm_i2l (pc := 70) dX7_coming_70 ?_
      exact sm_retL (pc := 71) dX7_coming_71
    · refine sm_iload (pc := 72) dX7_coming_72 0 rfl ?_
      refine sm_if_ne 83 (pc := 74) dX7_coming_74 rfl ?_ ?_
      · refine sm_aload_n (pc := 83) dX7_coming_83 rfl 1 rfl ?_
        refine sm_getR (pc := 84) dX7_coming_84 fr_RX7_154 (by decide) rfl (fun v84 => ?_)
        refine sm_aload_n (pc := 87) dX7_coming_87 rfl 2 rfl ?_
        refine sm_getR (pc := 88) dX7_coming_88 fr_RX7_36 (by decide) rfl (fun v88 => ?_)
        refine sm_iload (pc := 91) dX7_coming_91 0 rfl ?_
        refine sm_iconst (pc := 93) (1 : Int32) dX7_coming_93 (by decide) ?_
        refine sm_isub (pc := 94) dX7_coming_94 ?_
        refine sm_callVI (pc := 95) [.int (r37 - (1 : Int32))] (fun lq rq Sq hq => m_X5_periodOfBill Z lq v88 (r37 - (1 : Int32)) S37 hq) dX7_coming_95 mi_X5_periodOfBill ml_RX7_211 ⟨Nat.le_of_ble_eq_true rfl, Nat.le_of_ble_eq_true rfl, rfl, rfl⟩ rfl (by decide) rfl (Nat.le_of_ble_eq_true rfl) rfl (fun r95 S95 => ?_)
        refine sm_aI (pc := 98) dX7_coming_98 (fun v98 => ?_)
        refine sm_i2l (pc := 99) dX7_coming_99 ?_
        refine sm_sub [] rfl ?_
        exact sJ_X7_coming_100 Z  (Int32.toInt64 v98) S95
      refine sm_ldc2 (pc := 77) (-2 : Int64) dX7_coming_77 kc_RX7_199 ?_
      refine sm_goto 100 (pc := 80) dX7_coming_80 rfl ?_
      refine sm_sub [] rfl ?_
      exact sJ_X7_coming_100 Z  (-2 : Int64) S37
    · refine sm_aload_n (pc := 101) dX7_coming_101 rfl 2 rfl ?_
      refine sm_getR (pc := 102) dX7_coming_102 fr_RX7_36 (by decide) rfl (fun v102 => ?_)
      refine sm_callVL (pc := 105) [] (fun lq rq Sq hq => m_X5_greatestFlow Z lq v102 S37 hq) dX7_coming_105 mi_X5_greatestFlow ml_RX7_223 ⟨Nat.le_of_ble_eq_true rfl, Nat.le_of_ble_eq_true rfl, rfl, rfl⟩ rfl (by decide) rfl (Nat.le_of_ble_eq_true rfl) rfl (fun r105 S105 => ?_)
      exact sm_retL (pc := 108) dX7_coming_108
    refine sm_ldc2 (pc := 109) (-1 : Int64) dX7_coming_109 kc_RX7_79 ?_
    exact sm_retL (pc := 112) dX7_coming_112
  refine sm_ldc2 (pc := 11) (-1 : Int64) dX7_coming_11 kc_RX7_79 ?_
  exact sm_retL (pc := 14) dX7_coming_14
set_option maxRecDepth 20000 in
set_option maxHeartbeats 4000000 in
theorem m_X7_coming (Z : ZT) (l : Launch) (c : Nat) (a1 : Int32) (a2 : Int32) (S : St) {r : Int64} {S' : St} (h : F_X7_coming c a1 a2 S = some (r, S')) : MetX Z l yX7_coming cX7_coming 5 (some .long) rm_X7_coming [.ref c, .int a1, .int a2] S (eL r) S' := Sim.met (by decide +kernel) rfl (Nat.le_of_ble_eq_true rfl) (s_X7_coming Z c a1 a2 S) l h
set_option maxRecDepth 20000 in
set_option maxHeartbeats 4000000 in
theorem sJ_X7_value_18 (Z : ZT)    (S : St) : Sim eL Z rm_X7_value RX7 cX7_value 4 (some .long) 18 [] [] S (J_X7_value_18  S) := by
  unfold J_X7_value_18
  refine sm_lconst (pc := 18) (0 : Int64) dX7_value_18 (by decide) ?_
  exact sm_retL (pc := 19) dX7_value_19
set_option maxRecDepth 20000 in
set_option maxHeartbeats 4000000 in
theorem s_X7_value (Z : ZT) (c : Nat) (a1 : Int32) (a2 : Int64) (S : St) : Sim eL Z rm_X7_value RX7 cX7_value 4 (some .long) 0 [(0, .ref c), (1, .int a1), (2, .long a2)] [] S (F_X7_value c a1 a2 S) := by
  unfold F_X7_value
  refine sm_aload_n (pc := 0) dX7_value_0 rfl 0 rfl ?_
  refine sm_getR (pc := 1) dX7_value_1 fr_RX7_10 (by decide) rfl (fun v1 => ?_)
  refine sm_iload_n (pc := 4) dX7_value_4 rfl 1 rfl ?_
  refine sm_callVI (pc := 5) [.int a1] (fun lq rq Sq hq => m_X1_has Z lq v1 a1 S hq) dX7_value_5 mi_X1_has ml_RX7_101 ⟨Nat.le_of_ble_eq_true rfl, Nat.le_of_ble_eq_true rfl, rfl, rfl⟩ rfl (by decide) rfl (Nat.le_of_ble_eq_true rfl) rfl (fun r5 S5 => ?_)
  refine sm_if_eq 18 (pc := 8) dX7_value_8 rfl ?_ ?_
  · refine sm_sub [] rfl ?_
    exact sJ_X7_value_18 Z  S5
  refine sm_lload_n (pc := 11) dX7_value_11 rfl 2 rfl ?_
  refine sm_callSI (pc := 12) [.long a2] (fun lq rq Sq hq => m_X0_isRateOfPeriod Z lq a2 S5 hq) dX7_value_12 mi_X0_isRateOfPeriod ml_RX7_226 ⟨Nat.le_of_ble_eq_true rfl, Nat.le_of_ble_eq_true rfl, rfl, rfl⟩ rfl (Nat.le_of_ble_eq_true rfl) rfl (fun r12 S12 => ?_)
  refine sm_if_ne 20 (pc := 15) dX7_value_15 rfl ?_ ?_
  · refine sm_aload_n (pc := 20) dX7_value_20 rfl 0 rfl ?_
    refine sm_getR (pc := 21) dX7_value_21 fr_RX7_36 (by decide) rfl (fun v21 => ?_)
    refine sm_aload_n (pc := 24) dX7_value_24 rfl 0 rfl ?_
    refine sm_getR (pc := 25) dX7_value_25 fr_RX7_10 (by decide) rfl (fun v25 => ?_)
    refine sm_getR (pc := 28) dX7_value_28 fr_RX7_108 (by decide) rfl (fun v28 => ?_)
    refine sm_iload_n (pc := 31) dX7_value_31 rfl 1 rfl ?_
    refine sm_aR (pc := 32) dX7_value_32 (by decide) (fun v32 => ?_)
    refine sm_callVV (pc := 33) [.ref v32] (fun lq rq Sq hq => m_X5_follow Z lq v21 v32 S12 hq) dX7_value_33 mi_X5_follow ml_RX7_189 ⟨Nat.le_of_ble_eq_true rfl, Nat.le_of_ble_eq_true rfl, rfl, rfl⟩ rfl (by decide) rfl (Nat.le_of_ble_eq_true rfl) rfl (fun _ S33 => ?_)
    refine sm_aload_n (pc := 36) dX7_value_36 rfl 0 rfl ?_
    refine sm_getR (pc := 37) dX7_value_37 fr_RX7_36 (by decide) rfl (fun v37 => ?_)
    refine sm_lload_n (pc := 40) dX7_value_40 rfl 2 rfl ?_
    refine sm_callSD (pc := 41) [.long a2] (fun lq rq Sq hq => m_X0_toDouble Z lq a2 S33 hq) dX7_value_41 mi_X0_toDouble ml_RX7_231 ⟨Nat.le_of_ble_eq_true rfl, Nat.le_of_ble_eq_true rfl, rfl, rfl⟩ rfl (Nat.le_of_ble_eq_true rfl) rfl (fun r41 S41 => ?_)
    refine sm_callVD (pc := 44) [.double r41] (fun lq rq Sq hq => m_X5_worth Z lq v37 r41 S41 hq) dX7_value_44 mi_X5_worth ml_RX7_235 ⟨Nat.le_of_ble_eq_true rfl, Nat.le_of_ble_eq_true rfl, rfl, rfl⟩ rfl (by decide) rfl (Nat.le_of_ble_eq_true rfl) rfl (fun r44 S44 => ?_)
    refine sm_callSL (pc := 47) [.double r44] (fun lq rq Sq hq => m_X0_ofDouble Z lq r44 S44 hq) dX7_value_47 mi_X0_ofDouble ml_RX7_239 ⟨Nat.le_of_ble_eq_true rfl, Nat.le_of_ble_eq_true rfl, rfl, rfl⟩ rfl (Nat.le_of_ble_eq_true rfl) rfl (fun r47 S47 => ?_)
    exact sm_retL (pc := 50) dX7_value_50
  refine sm_sub [] rfl ?_
  exact sJ_X7_value_18 Z  S12
set_option maxRecDepth 20000 in
set_option maxHeartbeats 4000000 in
theorem m_X7_value (Z : ZT) (l : Launch) (c : Nat) (a1 : Int32) (a2 : Int64) (S : St) {r : Int64} {S' : St} (h : F_X7_value c a1 a2 S = some (r, S')) : MetX Z l yX7_value cX7_value 4 (some .long) rm_X7_value [.ref c, .int a1, .long a2] S (eL r) S' := Sim.met (by decide +kernel) rfl (Nat.le_of_ble_eq_true rfl) (s_X7_value Z c a1 a2 S) l h
set_option maxRecDepth 20000 in
set_option maxHeartbeats 4000000 in
theorem sJ_X7_yieldOf_17 (Z : ZT)    (S : St) : Sim eL Z rm_X7_yieldOf RX7 cX7_yieldOf 4 (some .long) 17 [] [] S (J_X7_yieldOf_17  S) := by
  unfold J_X7_yieldOf_17
  refine sm_ldc2 (pc := 17) (-1 : Int64) dX7_yieldOf_17 kc_RX7_79 ?_
  exact sm_retL (pc := 20) dX7_yieldOf_20
set_option maxRecDepth 20000 in
set_option maxHeartbeats 4000000 in
theorem s_X7_yieldOf (Z : ZT) (c : Nat) (a1 : Int32) (a2 : Int64) (S : St) : Sim eL Z rm_X7_yieldOf RX7 cX7_yieldOf 4 (some .long) 0 [(0, .ref c), (1, .int a1), (2, .long a2)] [] S (F_X7_yieldOf c a1 a2 S) := by
  unfold F_X7_yieldOf
  refine sm_aload_n (pc := 0) dX7_yieldOf_0 rfl 0 rfl ?_
  refine sm_getR (pc := 1) dX7_yieldOf_1 fr_RX7_10 (by decide) rfl (fun v1 => ?_)
  refine sm_iload_n (pc := 4) dX7_yieldOf_4 rfl 1 rfl ?_
  refine sm_callVI (pc := 5) [.int a1] (fun lq rq Sq hq => m_X1_has Z lq v1 a1 S hq) dX7_yieldOf_5 mi_X1_has ml_RX7_101 ⟨Nat.le_of_ble_eq_true rfl, Nat.le_of_ble_eq_true rfl, rfl, rfl⟩ rfl (by decide) rfl (Nat.le_of_ble_eq_true rfl) rfl (fun r5 S5 => ?_)
  refine sm_if_eq 17 (pc := 8) dX7_yieldOf_8 rfl ?_ ?_
  · refine sm_sub [] rfl ?_
    exact sJ_X7_yieldOf_17 Z  S5
  refine sm_lload_n (pc := 11) dX7_yieldOf_11 rfl 2 rfl ?_
  refine sm_lconst (pc := 12) (1 : Int64) dX7_yieldOf_12 (by decide) ?_
  refine sm_lcmp_ge 21 (pc := 13) dX7_yieldOf_13 dX7_yieldOf_14 rfl ?_ ?_
  · refine sm_aload_n (pc := 21) dX7_yieldOf_21 rfl 0 rfl ?_
    refine sm_getR (pc := 22) dX7_yieldOf_22 fr_RX7_36 (by decide) rfl (fun v22 => ?_)
    refine sm_aload_n (pc := 25) dX7_yieldOf_25 rfl 0 rfl ?_
    refine sm_getR (pc := 26) dX7_yieldOf_26 fr_RX7_10 (by decide) rfl (fun v26 => ?_)
    refine sm_getR (pc := 29) dX7_yieldOf_29 fr_RX7_108 (by decide) rfl (fun v29 => ?_)
    refine sm_iload_n (pc := 32) dX7_yieldOf_32 rfl 1 rfl ?_
    refine sm_aR (pc := 33) dX7_yieldOf_33 (by decide) (fun v33 => ?_)
    refine sm_callVV (pc := 34) [.ref v33] (fun lq rq Sq hq => m_X5_follow Z lq v22 v33 S5 hq) dX7_yieldOf_34 mi_X5_follow ml_RX7_189 ⟨Nat.le_of_ble_eq_true rfl, Nat.le_of_ble_eq_true rfl, rfl, rfl⟩ rfl (by decide) rfl (Nat.le_of_ble_eq_true rfl) rfl (fun _ S34 => ?_)
    refine sm_aload_n (pc := 37) dX7_yieldOf_37 rfl 0 rfl ?_
    refine sm_getR (pc := 38) dX7_yieldOf_38 fr_RX7_36 (by decide) rfl (fun v38 => ?_)
    refine sm_lload_n (pc := 41) dX7_yieldOf_41 rfl 2 rfl ?_
    refine sm_l2d (pc := 42) dX7_yieldOf_42 ?_
    refine sm_callVD (pc := 43) [.double (FP.l2d a2)] (fun lq rq Sq hq => m_X5_yieldBy Z lq v38 (FP.l2d a2) S34 hq) dX7_yieldOf_43 mi_X5_yieldBy ml_RX7_243 ⟨Nat.le_of_ble_eq_true rfl, Nat.le_of_ble_eq_true rfl, rfl, rfl⟩ rfl (by decide) rfl (Nat.le_of_ble_eq_true rfl) rfl (fun r43 S43 => ?_)
    refine sm_callSL (pc := 46) [.double r43] (fun lq rq Sq hq => m_X0_ofDouble Z lq r43 S43 hq) dX7_yieldOf_46 mi_X0_ofDouble ml_RX7_239 ⟨Nat.le_of_ble_eq_true rfl, Nat.le_of_ble_eq_true rfl, rfl, rfl⟩ rfl (Nat.le_of_ble_eq_true rfl) rfl (fun r46 S46 => ?_)
    exact sm_retL (pc := 49) dX7_yieldOf_49
  refine sm_sub [] rfl ?_
  exact sJ_X7_yieldOf_17 Z  S5
set_option maxRecDepth 20000 in
set_option maxHeartbeats 4000000 in
theorem m_X7_yieldOf (Z : ZT) (l : Launch) (c : Nat) (a1 : Int32) (a2 : Int64) (S : St) {r : Int64} {S' : St} (h : F_X7_yieldOf c a1 a2 S = some (r, S')) : MetX Z l yX7_yieldOf cX7_yieldOf 4 (some .long) rm_X7_yieldOf [.ref c, .int a1, .long a2] S (eL r) S' := Sim.met (by decide +kernel) rfl (Nat.le_of_ble_eq_true rfl) (s_X7_yieldOf Z c a1 a2 S) l h
set_option maxRecDepth 20000 in
set_option maxHeartbeats 4000000 in
theorem sJ_X7_near_17 (Z : ZT)    (S : St) : Sim eI Z rm_X7_near RX7 cX7_near 4 (some .int) 17 [] [] S (J_X7_near_17  S) := by
  unfold J_X7_near_17
  refine sm_iconst (pc := 17) (-1 : Int32) dX7_near_17 (by decide) ?_
  exact sm_retI (pc := 18) dX7_near_18
set_option maxRecDepth 20000 in
set_option maxHeartbeats 4000000 in
theorem s_X7_near (Z : ZT) (c : Nat) (a1 : Int32) (a2 : Int64) (S : St) : Sim eI Z rm_X7_near RX7 cX7_near 4 (some .int) 0 [(0, .ref c), (1, .int a1), (2, .long a2)] [] S (F_X7_near c a1 a2 S) := by
  unfold F_X7_near
  refine sm_aload_n (pc := 0) dX7_near_0 rfl 0 rfl ?_
  refine sm_getR (pc := 1) dX7_near_1 fr_RX7_10 (by decide) rfl (fun v1 => ?_)
  refine sm_iload_n (pc := 4) dX7_near_4 rfl 1 rfl ?_
  refine sm_callVI (pc := 5) [.int a1] (fun lq rq Sq hq => m_X1_has Z lq v1 a1 S hq) dX7_near_5 mi_X1_has ml_RX7_101 ⟨Nat.le_of_ble_eq_true rfl, Nat.le_of_ble_eq_true rfl, rfl, rfl⟩ rfl (by decide) rfl (Nat.le_of_ble_eq_true rfl) rfl (fun r5 S5 => ?_)
  refine sm_if_eq 17 (pc := 8) dX7_near_8 rfl ?_ ?_
  · refine sm_sub [] rfl ?_
    exact sJ_X7_near_17 Z  S5
  refine sm_lload_n (pc := 11) dX7_near_11 rfl 2 rfl ?_
  refine sm_lconst (pc := 12) (1 : Int64) dX7_near_12 (by decide) ?_
  refine sm_lcmp_ge 19 (pc := 13) dX7_near_13 dX7_near_14 rfl ?_ ?_
  · refine sm_aload_n (pc := 19) dX7_near_19 rfl 0 rfl ?_
    refine sm_getR (pc := 20) dX7_near_20 fr_RX7_36 (by decide) rfl (fun v20 => ?_)
    refine sm_aload_n (pc := 23) dX7_near_23 rfl 0 rfl ?_
    refine sm_getR (pc := 24) dX7_near_24 fr_RX7_10 (by decide) rfl (fun v24 => ?_)
    refine sm_getR (pc := 27) dX7_near_27 fr_RX7_108 (by decide) rfl (fun v27 => ?_)
    refine sm_iload_n (pc := 30) dX7_near_30 rfl 1 rfl ?_
    refine sm_aR (pc := 31) dX7_near_31 (by decide) (fun v31 => ?_)
    refine sm_callVV (pc := 32) [.ref v31] (fun lq rq Sq hq => m_X5_follow Z lq v20 v31 S5 hq) dX7_near_32 mi_X5_follow ml_RX7_189 ⟨Nat.le_of_ble_eq_true rfl, Nat.le_of_ble_eq_true rfl, rfl, rfl⟩ rfl (by decide) rfl (Nat.le_of_ble_eq_true rfl) rfl (fun _ S32 => ?_)
    refine sm_aload_n (pc := 35) dX7_near_35 rfl 0 rfl ?_
    refine sm_getR (pc := 36) dX7_near_36 fr_RX7_36 (by decide) rfl (fun v36 => ?_)
    refine sm_lload_n (pc := 39) dX7_near_39 rfl 2 rfl ?_
    refine sm_l2d (pc := 40) dX7_near_40 ?_
    refine sm_callVD (pc := 41) [.double (FP.l2d a2)] (fun lq rq Sq hq => m_X5_yieldBy Z lq v36 (FP.l2d a2) S32 hq) dX7_near_41 mi_X5_yieldBy ml_RX7_243 ⟨Nat.le_of_ble_eq_true rfl, Nat.le_of_ble_eq_true rfl, rfl, rfl⟩ rfl (by decide) rfl (Nat.le_of_ble_eq_true rfl) rfl (fun r41 S41 => ?_)
    refine sm_d2f (pc := 44) dX7_near_44 (fun v44 => ?_)
    refine sm_callSI (pc := 45) [.float v44] (fun lq rq Sq hq => m_X0_ofFloat Z lq v44 S41 hq) dX7_near_45 mi_X0_ofFloat ml_RX7_246 ⟨Nat.le_of_ble_eq_true rfl, Nat.le_of_ble_eq_true rfl, rfl, rfl⟩ rfl (Nat.le_of_ble_eq_true rfl) rfl (fun r45 S45 => ?_)
    exact sm_retI (pc := 48) dX7_near_48
  refine sm_sub [] rfl ?_
  exact sJ_X7_near_17 Z  S5
set_option maxRecDepth 20000 in
set_option maxHeartbeats 4000000 in
theorem m_X7_near (Z : ZT) (l : Launch) (c : Nat) (a1 : Int32) (a2 : Int64) (S : St) {r : Int32} {S' : St} (h : F_X7_near c a1 a2 S = some (r, S')) : MetX Z l yX7_near cX7_near 4 (some .int) rm_X7_near [.ref c, .int a1, .long a2] S (eI r) S' := Sim.met (by decide +kernel) rfl (Nat.le_of_ble_eq_true rfl) (s_X7_near Z c a1 a2 S) l h
set_option maxRecDepth 20000 in
set_option maxHeartbeats 4000000 in
theorem sJ_X7_duration_18 (Z : ZT)    (S : St) : Sim eL Z rm_X7_duration RX7 cX7_duration 8 (some .long) 18 [] [] S (J_X7_duration_18  S) := by
  unfold J_X7_duration_18
  refine sm_lconst (pc := 18) (0 : Int64) dX7_duration_18 (by decide) ?_
  exact sm_retL (pc := 19) dX7_duration_19
set_option maxRecDepth 20000 in
set_option maxHeartbeats 4000000 in
theorem sJ_X7_duration_79 (Z : ZT)   (t0 : Int64) (S : St) : Sim eL Z rm_X7_duration RX7 cX7_duration 8 (some .long) 79 [] [.long t0] S (J_X7_duration_79  t0 S) := by
  unfold J_X7_duration_79
  exact sm_retL (pc := 79) dX7_duration_79
set_option maxRecDepth 20000 in
set_option maxHeartbeats 4000000 in
theorem s_X7_duration (Z : ZT) (c : Nat) (a1 : Int32) (a2 : Int64) (S : St) : Sim eL Z rm_X7_duration RX7 cX7_duration 8 (some .long) 0 [(0, .ref c), (1, .int a1), (2, .long a2)] [] S (F_X7_duration c a1 a2 S) := by
  unfold F_X7_duration
  refine sm_aload_n (pc := 0) dX7_duration_0 rfl 0 rfl ?_
  refine sm_getR (pc := 1) dX7_duration_1 fr_RX7_10 (by decide) rfl (fun v1 => ?_)
  refine sm_iload_n (pc := 4) dX7_duration_4 rfl 1 rfl ?_
  refine sm_callVI (pc := 5) [.int a1] (fun lq rq Sq hq => m_X1_has Z lq v1 a1 S hq) dX7_duration_5 mi_X1_has ml_RX7_101 ⟨Nat.le_of_ble_eq_true rfl, Nat.le_of_ble_eq_true rfl, rfl, rfl⟩ rfl (by decide) rfl (Nat.le_of_ble_eq_true rfl) rfl (fun r5 S5 => ?_)
  refine sm_if_eq 18 (pc := 8) dX7_duration_8 rfl ?_ ?_
  · refine sm_sub [] rfl ?_
    exact sJ_X7_duration_18 Z  S5
  refine sm_lload_n (pc := 11) dX7_duration_11 rfl 2 rfl ?_
  refine sm_callSI (pc := 12) [.long a2] (fun lq rq Sq hq => m_X0_isRateOfPeriod Z lq a2 S5 hq) dX7_duration_12 mi_X0_isRateOfPeriod ml_RX7_226 ⟨Nat.le_of_ble_eq_true rfl, Nat.le_of_ble_eq_true rfl, rfl, rfl⟩ rfl (Nat.le_of_ble_eq_true rfl) rfl (fun r12 S12 => ?_)
  refine sm_if_ne 20 (pc := 15) dX7_duration_15 rfl ?_ ?_
  · refine sm_aload_n (pc := 20) dX7_duration_20 rfl 0 rfl ?_
    refine sm_getR (pc := 21) dX7_duration_21 fr_RX7_36 (by decide) rfl (fun v21 => ?_)
    refine sm_aload_n (pc := 24) dX7_duration_24 rfl 0 rfl ?_
    refine sm_getR (pc := 25) dX7_duration_25 fr_RX7_10 (by decide) rfl (fun v25 => ?_)
    refine sm_getR (pc := 28) dX7_duration_28 fr_RX7_108 (by decide) rfl (fun v28 => ?_)
    refine sm_iload_n (pc := 31) dX7_duration_31 rfl 1 rfl ?_
    refine sm_aR (pc := 32) dX7_duration_32 (by decide) (fun v32 => ?_)
    refine sm_callVV (pc := 33) [.ref v32] (fun lq rq Sq hq => m_X5_follow Z lq v21 v32 S12 hq) dX7_duration_33 mi_X5_follow ml_RX7_189 ⟨Nat.le_of_ble_eq_true rfl, Nat.le_of_ble_eq_true rfl, rfl, rfl⟩ rfl (by decide) rfl (Nat.le_of_ble_eq_true rfl) rfl (fun _ S33 => ?_)
    refine sm_lload_n (pc := 36) dX7_duration_36 rfl 2 rfl ?_
    refine sm_callSD (pc := 37) [.long a2] (fun lq rq Sq hq => m_X0_toDouble Z lq a2 S33 hq) dX7_duration_37 mi_X0_toDouble ml_RX7_231 ⟨Nat.le_of_ble_eq_true rfl, Nat.le_of_ble_eq_true rfl, rfl, rfl⟩ rfl (Nat.le_of_ble_eq_true rfl) rfl (fun r37 S37 => ?_)
    refine sm_dstore (pc := 40) (lv' := [(4, .double r37), (0, .ref c), (1, .int a1), (2, .long a2)]) dX7_duration_40 (by decide) rfl ?_
    refine sm_aload_n (pc := 42) dX7_duration_42 rfl 1 rfl ?_
    refine sm_getR (pc := 43) dX7_duration_43 fr_RX7_36 (by decide) rfl (fun v43 => ?_)
    refine sm_dload (pc := 46) dX7_duration_46 0 rfl ?_
    refine sm_callVD (pc := 48) [.double r37] (fun lq rq Sq hq => m_X5_worth Z lq v43 r37 S37 hq) dX7_duration_48 mi_X5_worth ml_RX7_235 ⟨Nat.le_of_ble_eq_true rfl, Nat.le_of_ble_eq_true rfl, rfl, rfl⟩ rfl (by decide) rfl (Nat.le_of_ble_eq_true rfl) rfl (fun r48 S48 => ?_)
    refine sm_dstore (pc := 51) (lv' := [(6, .double r48), (4, .double r37), (0, .ref c), (1, .int a1), (2, .long a2)]) dX7_duration_51 (by decide) rfl ?_
    refine sm_dload (pc := 53) dX7_duration_53 0 rfl ?_
    refine sm_dconst0 (pc := 55) dX7_duration_55 ?_
    refine sm_dcmp_le 78 (pc := 56) dX7_duration_56 dX7_duration_57 rfl ?_ ?_
    · refine sm_lconst (pc := 78) (0 : Int64) dX7_duration_78 (by decide) ?_
      refine sm_sub [] rfl ?_
      exact sJ_X7_duration_79 Z  (0 : Int64) S48
    refine sm_aload_n (pc := 60) dX7_duration_60 rfl 2 rfl ?_
    refine sm_getR (pc := 61) dX7_duration_61 fr_RX7_36 (by decide) rfl (fun v61 => ?_)
    refine sm_dload (pc := 64) dX7_duration_64 1 rfl ?_
    refine sm_callVD (pc := 66) [.double r37] (fun lq rq Sq hq => m_X5_worthByNumber Z lq v61 r37 S48 hq) dX7_duration_66 mi_X5_worthByNumber ml_RX7_250 ⟨Nat.le_of_ble_eq_true rfl, Nat.le_of_ble_eq_true rfl, rfl, rfl⟩ rfl (by decide) rfl (Nat.le_of_ble_eq_true rfl) rfl (fun r66 S66 => ?_)
    refine sm_dload (pc := 69) dX7_duration_69 0 rfl ?_
    refine sm_ddiv (pc := 71) dX7_duration_71 (fun v71 => ?_)
    refine sm_callSL (pc := 72) [.double v71] (fun lq rq Sq hq => m_X0_ofDouble Z lq v71 S66 hq) dX7_duration_72 mi_X0_ofDouble ml_RX7_239 ⟨Nat.le_of_ble_eq_true rfl, Nat.le_of_ble_eq_true rfl, rfl, rfl⟩ rfl (Nat.le_of_ble_eq_true rfl) rfl (fun r72 S72 => ?_)
    refine sm_goto 79 (pc := 75) dX7_duration_75 rfl ?_
    refine sm_sub [] rfl ?_
    exact sJ_X7_duration_79 Z  r72 S72
  refine sm_sub [] rfl ?_
  exact sJ_X7_duration_18 Z  S12
set_option maxRecDepth 20000 in
set_option maxHeartbeats 4000000 in
theorem m_X7_duration (Z : ZT) (l : Launch) (c : Nat) (a1 : Int32) (a2 : Int64) (S : St) {r : Int64} {S' : St} (h : F_X7_duration c a1 a2 S = some (r, S')) : MetX Z l yX7_duration cX7_duration 8 (some .long) rm_X7_duration [.ref c, .int a1, .long a2] S (eL r) S' := Sim.met (by decide +kernel) rfl (Nat.le_of_ble_eq_true rfl) (s_X7_duration Z c a1 a2 S) l h
set_option maxRecDepth 20000 in
set_option maxHeartbeats 4000000 in
theorem sJ_X7_behind_50 (Z : ZT) (rec10 : (Nat → Int32 → Int32 → Int32 → St → Option (Int32 × St))) (h10 : ∀ (x0 : Nat) (x1 : Int32) (x2 : Int32) (x3 : Int32)  (S : St), Sim eI Z rm_X7_behind RX7 cX7_behind 4 (some .int) 10 [(0, .ref x0), (1, .int x1), (2, .int x2), (3, .int x3)] [] S (rec10 x0 x1 x2 x3 S)) (x0 : Nat) (x1 : Int32) (x2 : Int32) (x3 : Int32)  (S : St) : Sim eI Z rm_X7_behind RX7 cX7_behind 4 (some .int) 50 [(0, .ref x0), (1, .int x1), (2, .int x2), (3, .int x3)] [] S (J_X7_behind_50 rec10 x0 x1 x2 x3 S) := by
  unfold J_X7_behind_50
  refine sm_iinc (pc := 50) (x3 + 1) (lv' := [(3, .int (x3 + 1)), (0, .ref x0), (1, .int x1), (2, .int x2)]) dX7_behind_50 3 rfl rfl (by decide) rfl ?_
  refine sm_goto 10 (pc := 53) dX7_behind_53 rfl ?_
  refine sm_sub [1, 2, 3, 0] rfl ?_
  exact h10 x0 x1 x2 (x3 + 1) S
set_option maxRecDepth 20000 in
set_option maxHeartbeats 4000000 in
theorem sB_X7_behind_10 (Z : ZT) (rec10 : (Nat → Int32 → Int32 → Int32 → St → Option (Int32 × St))) (h10 : ∀ (x0 : Nat) (x1 : Int32) (x2 : Int32) (x3 : Int32)  (S : St), Sim eI Z rm_X7_behind RX7 cX7_behind 4 (some .int) 10 [(0, .ref x0), (1, .int x1), (2, .int x2), (3, .int x3)] [] S (rec10 x0 x1 x2 x3 S)) (x0 : Nat) (x1 : Int32) (x2 : Int32) (x3 : Int32)  (S : St) : Sim eI Z rm_X7_behind RX7 cX7_behind 4 (some .int) 10 [(0, .ref x0), (1, .int x1), (2, .int x2), (3, .int x3)] [] S (B_X7_behind_10 rec10 x0 x1 x2 x3 S) := by
  unfold B_X7_behind_10
  refine sm_iload_n (pc := 10) dX7_behind_10 rfl 3 rfl ?_
  refine sm_aload_n (pc := 11) dX7_behind_11 rfl 0 rfl ?_
  refine sm_getR (pc := 12) dX7_behind_12 fr_RX7_10 (by decide) rfl (fun v12 => ?_)
  refine sm_getI (pc := 15) dX7_behind_15 fr_RX7_253 (by decide) rfl (fun v15 => ?_)
  refine sm_icmp_ge 56 (pc := 18) dX7_behind_18 rfl ?_ ?_
  · refine sm_iload_n (pc := 56) dX7_behind_56 rfl 2 rfl ?_
    exact sm_retI (pc := 57) dX7_behind_57
  refine sm_aload_n (pc := 21) dX7_behind_21 rfl 0 rfl ?_
  refine sm_getR (pc := 22) dX7_behind_22 fr_RX7_10 (by decide) rfl (fun v22 => ?_)
  refine sm_getR (pc := 25) dX7_behind_25 fr_RX7_108 (by decide) rfl (fun v25 => ?_)
  refine sm_iload_n (pc := 28) dX7_behind_28 rfl 3 rfl ?_
  refine sm_aR (pc := 29) dX7_behind_29 (by decide) (fun v29 => ?_)
  refine sm_aload_n (pc := 30) dX7_behind_30 rfl 0 rfl ?_
  refine sm_getR (pc := 31) dX7_behind_31 fr_RX7_10 (by decide) rfl (fun v31 => ?_)
  refine sm_getI (pc := 34) dX7_behind_34 fr_RX7_93 (by decide) rfl (fun v34 => ?_)
  refine sm_callVI (pc := 37) [.int v34] (fun lq rq Sq hq => m_X4_daysLate Z lq v29 v34 S hq) dX7_behind_37 mi_X4_daysLate ml_RX7_165 ⟨Nat.le_of_ble_eq_true rfl, Nat.le_of_ble_eq_true rfl, rfl, rfl⟩ rfl (by decide) rfl (Nat.le_of_ble_eq_true rfl) rfl (fun r37 S37 => ?_)
  refine sm_iload_n (pc := 40) dX7_behind_40 rfl 1 rfl ?_
  refine sm_icmp_le 50 (pc := 41) dX7_behind_41 rfl ?_ ?_
  · refine sm_sub [0, 1, 2, 3] rfl ?_
    exact sJ_X7_behind_50 Z rec10 h10 x0 x1 x2 x3 S37
  refine sm_iload_n (pc := 44) dX7_behind_44 rfl 2 rfl ?_
  refine sm_iconst (pc := 45) (1 : Int32) dX7_behind_45 (by decide) ?_
  refine sm_iload_n (pc := 46) dX7_behind_46 rfl 3 rfl ?_
  refine sm_ishl (pc := 47) dX7_behind_47 ?_
  refine sm_ior (pc := 48) dX7_behind_48 ?_
  refine sm_bdI (fun v49 => ?_)
  refine sm_istore_n (pc := 49) (lv' := [(2, .int v49), (0, .ref x0), (1, .int x1), (3, .int x3)]) dX7_behind_49 rfl (by decide) rfl ?_
  refine sm_sub [1, 2, 0, 3] rfl ?_
  exact sJ_X7_behind_50 Z rec10 h10 x0 x1 v49 x3 S37
set_option maxRecDepth 20000 in
set_option maxHeartbeats 4000000 in
theorem sL_X7_behind_10 (Z : ZT)  (n : Nat) : ∀ (x0 : Nat) (x1 : Int32) (x2 : Int32) (x3 : Int32)  (S : St), Sim eI Z rm_X7_behind RX7 cX7_behind 4 (some .int) 10 [(0, .ref x0), (1, .int x1), (2, .int x2), (3, .int x3)] [] S (L_X7_behind_10  n x0 x1 x2 x3 S) := by
  induction n with
  | zero => intros; exact sm_none
  | succ n ih => intro x0 x1 x2 x3 S; exact sB_X7_behind_10 Z  (L_X7_behind_10  n) ih x0 x1 x2 x3 S
set_option maxRecDepth 20000 in
set_option maxHeartbeats 4000000 in
theorem s_X7_behind (Z : ZT) (c : Nat) (a1 : Int32) (S : St) : Sim eI Z rm_X7_behind RX7 cX7_behind 4 (some .int) 0 [(0, .ref c), (1, .int a1)] [] S (F_X7_behind c a1 S) := by
  unfold F_X7_behind
  refine sm_iload_n (pc := 0) dX7_behind_0 rfl 1 rfl ?_
  refine sm_if_ge 6 (pc := 1) dX7_behind_1 rfl ?_ ?_
  · refine sm_iconst (pc := 6) (0 : Int32) dX7_behind_6 (by decide) ?_
    refine sm_istore_n (pc := 7) (lv' := [(2, .int (0 : Int32)), (0, .ref c), (1, .int a1)]) dX7_behind_7 rfl (by decide) rfl ?_
    refine sm_iconst (pc := 8) (0 : Int32) dX7_behind_8 (by decide) ?_
    refine sm_istore_n (pc := 9) (lv' := [(3, .int (0 : Int32)), (2, .int (0 : Int32)), (0, .ref c), (1, .int a1)]) dX7_behind_9 rfl (by decide) rfl ?_
    refine sm_sub [2, 3, 1, 0] rfl ?_
    exact sL_X7_behind_10 Z  6000 c a1 (0 : Int32) (0 : Int32) S
  refine sm_iconst (pc := 4) (-1 : Int32) dX7_behind_4 (by decide) ?_
  exact sm_retI (pc := 5) dX7_behind_5
set_option maxRecDepth 20000 in
set_option maxHeartbeats 4000000 in
theorem m_X7_behind (Z : ZT) (l : Launch) (c : Nat) (a1 : Int32) (S : St) {r : Int32} {S' : St} (h : F_X7_behind c a1 S = some (r, S')) : MetX Z l yX7_behind cX7_behind 4 (some .int) rm_X7_behind [.ref c, .int a1] S (eI r) S' := Sim.met (by decide +kernel) rfl (Nat.le_of_ble_eq_true rfl) (s_X7_behind Z c a1 S) l h
set_option maxRecDepth 20000 in
set_option maxHeartbeats 4000000 in
theorem sJ_X7_settles_55 (Z : ZT)   (t0 : Int32) (S : St) : Sim eI Z rm_X7_settles RX7 cX7_settles 3 (some .int) 55 [] [.int t0] S (J_X7_settles_55  t0 S) := by
  unfold J_X7_settles_55
  exact sm_retI (pc := 55) dX7_settles_55
set_option maxRecDepth 20000 in
set_option maxHeartbeats 4000000 in
theorem s_X7_settles (Z : ZT) (c : Nat) (a1 : Int32) (S : St) : Sim eI Z rm_X7_settles RX7 cX7_settles 3 (some .int) 0 [(0, .ref c), (1, .int a1)] [] S (F_X7_settles c a1 S) := by
  unfold F_X7_settles
  refine sm_aload_n (pc := 0) dX7_settles_0 rfl 0 rfl ?_
  refine sm_getR (pc := 1) dX7_settles_1 fr_RX7_10 (by decide) rfl (fun v1 => ?_)
  refine sm_iload_n (pc := 4) dX7_settles_4 rfl 1 rfl ?_
  refine sm_callVI (pc := 5) [.int a1] (fun lq rq Sq hq => m_X1_has Z lq v1 a1 S hq) dX7_settles_5 mi_X1_has ml_RX7_101 ⟨Nat.le_of_ble_eq_true rfl, Nat.le_of_ble_eq_true rfl, rfl, rfl⟩ rfl (by decide) rfl (Nat.le_of_ble_eq_true rfl) rfl (fun r5 S5 => ?_)
  refine sm_if_ne 13 (pc := 8) dX7_settles_8 rfl ?_ ?_
  · refine sm_aload_n (pc := 13) dX7_settles_13 rfl 0 rfl ?_
    refine sm_getR (pc := 14) dX7_settles_14 fr_RX7_10 (by decide) rfl (fun v14 => ?_)
    refine sm_getR (pc := 17) dX7_settles_17 fr_RX7_108 (by decide) rfl (fun v17 => ?_)
    refine sm_iload_n (pc := 20) dX7_settles_20 rfl 1 rfl ?_
    refine sm_aR (pc := 21) dX7_settles_21 (by decide) (fun v21 => ?_)
    refine sm_astore_n (pc := 22) (lv' := [(2, .ref v21), (0, .ref c), (1, .int a1)]) dX7_settles_22 rfl (by decide) rfl ?_
    refine sm_aload_n (pc := 23) dX7_settles_23 rfl 0 rfl ?_
    refine sm_getI (pc := 24) dX7_settles_24 fr_RX7_158 (by decide) rfl (fun v24 => ?_)
    refine sm_aload_n (pc := 27) dX7_settles_27 rfl 0 rfl ?_
    refine sm_getI (pc := 28) dX7_settles_28 fr_RX7_148 (by decide) rfl (fun v28 => ?_)
    refine sm_icmp_ge 54 (pc := 31) dX7_settles_31 rfl ?_ ?_
    · refine sm_iconst (pc := 54) (0 : Int32) dX7_settles_54 (by decide) ?_
      refine sm_sub [] rfl ?_
      exact sJ_X7_settles_55 Z  (0 : Int32) S5
    refine sm_aload_n (pc := 34) dX7_settles_34 rfl 0 rfl ?_
    refine sm_getR (pc := 35) dX7_settles_35 fr_RX7_154 (by decide) rfl (fun v35 => ?_)
    refine sm_aload_n (pc := 38) dX7_settles_38 rfl 0 rfl ?_
    refine sm_getI (pc := 39) dX7_settles_39 fr_RX7_148 (by decide) rfl (fun v39 => ?_)
    refine sm_aI (pc := 42) dX7_settles_42 (fun v42 => ?_)
    refine sm_aload_n (pc := 43) dX7_settles_43 rfl 1 rfl ?_
    refine sm_getR (pc := 44) dX7_settles_44 fr_RX7_10 (by decide) rfl (fun v44 => ?_)
    refine sm_getI (pc := 47) dX7_settles_47 fr_RX7_93 (by decide) rfl (fun v47 => ?_)
    refine sm_isub (pc := 50) dX7_settles_50 ?_
    refine sm_goto 55 (pc := 51) dX7_settles_51 rfl ?_
    refine sm_sub [] rfl ?_
    exact sJ_X7_settles_55 Z  (v42 - v47) S5
  refine sm_iconst (pc := 11) (-1 : Int32) dX7_settles_11 (by decide) ?_
  exact sm_retI (pc := 12) dX7_settles_12
set_option maxRecDepth 20000 in
set_option maxHeartbeats 4000000 in
theorem m_X7_settles (Z : ZT) (l : Launch) (c : Nat) (a1 : Int32) (S : St) {r : Int32} {S' : St} (h : F_X7_settles c a1 S = some (r, S')) : MetX Z l yX7_settles cX7_settles 3 (some .int) rm_X7_settles [.ref c, .int a1] S (eI r) S' := Sim.met (by decide +kernel) rfl (Nat.le_of_ble_eq_true rfl) (s_X7_settles Z c a1 S) l h
set_option maxRecDepth 20000 in
set_option maxHeartbeats 4000000 in
theorem sJ_X7_would_18 (Z : ZT)    (S : St) : Sim eL Z rm_X7_would RX7 cX7_would 10 (some .long) 18 [] [] S (J_X7_would_18  S) := by
  unfold J_X7_would_18
  refine sm_ldc2 (pc := 18) (-1 : Int64) dX7_would_18 kc_RX7_79 ?_
  exact sm_retL (pc := 21) dX7_would_21
set_option maxRecDepth 20000 in
set_option maxHeartbeats 4000000 in
theorem s_X7_would (Z : ZT) (c : Nat) (a1 : Int32) (a2 : Int64) (a3 : Int32) (S : St) : Sim eL Z rm_X7_would RX7 cX7_would 10 (some .long) 0 [(0, .ref c), (1, .int a1), (2, .long a2), (4, .int a3)] [] S (F_X7_would c a1 a2 a3 S) := by
  unfold F_X7_would
  refine sm_aload_n (pc := 0) dX7_would_0 rfl 0 rfl ?_
  refine sm_getR (pc := 1) dX7_would_1 fr_RX7_10 (by decide) rfl (fun v1 => ?_)
  refine sm_iload_n (pc := 4) dX7_would_4 rfl 1 rfl ?_
  refine sm_callVI (pc := 5) [.int a1] (fun lq rq Sq hq => m_X1_has Z lq v1 a1 S hq) dX7_would_5 mi_X1_has ml_RX7_101 ⟨Nat.le_of_ble_eq_true rfl, Nat.le_of_ble_eq_true rfl, rfl, rfl⟩ rfl (by decide) rfl (Nat.le_of_ble_eq_true rfl) rfl (fun r5 S5 => ?_)
  refine sm_if_eq 18 (pc := 8) dX7_would_8 rfl ?_ ?_
  · refine sm_sub [] rfl ?_
    exact sJ_X7_would_18 Z  S5
  refine sm_lload_n (pc := 11) dX7_would_11 rfl 2 rfl ?_
  refine sm_callSI (pc := 12) [.long a2] (fun lq rq Sq hq => m_X7_isAmount Z lq a2 S5 hq) dX7_would_12 mi_X7_isAmount ml_RX7_104 ⟨Nat.le_of_ble_eq_true rfl, Nat.le_of_ble_eq_true rfl, rfl, rfl⟩ rfl (Nat.le_of_ble_eq_true rfl) rfl (fun r12 S12 => ?_)
  refine sm_if_ne 22 (pc := 15) dX7_would_15 rfl ?_ ?_
  · refine sm_aload_n (pc := 22) dX7_would_22 rfl 0 rfl ?_
    refine sm_getR (pc := 23) dX7_would_23 fr_RX7_10 (by decide) rfl (fun v23 => ?_)
    refine sm_getR (pc := 26) dX7_would_26 fr_RX7_108 (by decide) rfl (fun v26 => ?_)
    refine sm_iload_n (pc := 29) dX7_would_29 rfl 1 rfl ?_
    refine sm_aR (pc := 30) dX7_would_30 (by decide) (fun v30 => ?_)
    refine sm_astore (pc := 31) (lv' := [(5, .ref v30), (0, .ref c), (1, .int a1), (2, .long a2), (4, .int a3)]) dX7_would_31 (by decide) rfl ?_
    refine sm_aload_n (pc := 33) dX7_would_33 rfl 1 rfl ?_
    refine sm_getR (pc := 34) dX7_would_34 fr_RX7_29 (by decide) rfl (fun v34 => ?_)
    refine sm_aload (pc := 37) dX7_would_37 0 rfl ?_
    refine sm_callVV (pc := 39) [.ref v30] (fun lq rq Sq hq => m_X4_copyFrom Z lq v34 v30 S12 hq) dX7_would_39 mi_X4_copyFrom ml_RX7_256 ⟨Nat.le_of_ble_eq_true rfl, Nat.le_of_ble_eq_true rfl, rfl, rfl⟩ rfl (by decide) rfl (Nat.le_of_ble_eq_true rfl) rfl (fun _ S39 => ?_)
    refine sm_aload_n (pc := 42) dX7_would_42 rfl 1 rfl ?_
    refine sm_getR (pc := 43) dX7_would_43 fr_RX7_29 (by decide) rfl (fun v43 => ?_)
    refine sm_lload_n (pc := 46) dX7_would_46 rfl 3 rfl ?_
    refine sm_callVL (pc := 47) [.long a2] (fun lq rq Sq hq => m_X4_receive Z lq v43 a2 S39 hq) dX7_would_47 mi_X4_receive ml_RX7_112 ⟨Nat.le_of_ble_eq_true rfl, Nat.le_of_ble_eq_true rfl, rfl, rfl⟩ rfl (by decide) rfl (Nat.le_of_ble_eq_true rfl) rfl (fun r47 S47 => ?_)
    refine sm_lstore (pc := 50) (lv' := [(6, .long r47), (5, .ref v30), (0, .ref c), (1, .int a1), (2, .long a2), (4, .int a3)]) dX7_would_50 (by decide) rfl ?_
    refine sm_aload (pc := 52) dX7_would_52 1 rfl ?_
    refine sm_getL (pc := 54) dX7_would_54 fr_RX7_171 (by decide) rfl (fun v54 => ?_)
    refine sm_aload_n (pc := 57) dX7_would_57 rfl 2 rfl ?_
    refine sm_getR (pc := 58) dX7_would_58 fr_RX7_29 (by decide) rfl (fun v58 => ?_)
    refine sm_getL (pc := 61) dX7_would_61 fr_RX7_171 (by decide) rfl (fun v61 => ?_)
    refine sm_lsub (pc := 64) dX7_would_64 ?_
    refine sm_bdJ (fun v65 => ?_)
    refine sm_lstore (pc := 65) (lv' := [(8, .long v65), (6, .long r47), (5, .ref v30), (0, .ref c), (1, .int a1), (2, .long a2), (4, .int a3)]) dX7_would_65 (by decide) rfl ?_
    refine sm_iload (pc := 67) dX7_would_67 6 rfl ?_
    refine sm_tswk (pc := 69) 167 [108, 122, 136, 153, 156, 159] [0, 1, 2, 3, 4, 5] dX7_would_69 rfl (by decide) (by decide) (by decide) rfl ⟨?_, ?_, ?_, ?_, ?_, ?_, trivial⟩ ?_
    · refine sm_aload_n (pc := 108) dX7_would_108 rfl 3 rfl ?_
      refine sm_getR (pc := 109) dX7_would_109 fr_RX7_29 (by decide) rfl (fun v109 => ?_)
      refine sm_getL (pc := 112) dX7_would_112 fr_RX7_177 (by decide) rfl (fun v112 => ?_)
      refine sm_aload (pc := 115) dX7_would_115 2 rfl ?_
      refine sm_getL (pc := 117) dX7_would_117 fr_RX7_177 (by decide) rfl (fun v117 => ?_)
      refine sm_lsub (pc := 120) dX7_would_120 ?_
      exact sm_retL (pc := 121) dX7_would_121
    · refine sm_aload_n (pc := 122) dX7_would_122 rfl 3 rfl ?_
      refine sm_getR (pc := 123) dX7_would_123 fr_RX7_29 (by decide) rfl (fun v123 => ?_)
      refine sm_getL (pc := 126) dX7_would_126 fr_RX7_180 (by decide) rfl (fun v126 => ?_)
      refine sm_aload (pc := 129) dX7_would_129 2 rfl ?_
      refine sm_getL (pc := 131) dX7_would_131 fr_RX7_180 (by decide) rfl (fun v131 => ?_)
      refine sm_lsub (pc := 134) dX7_would_134 ?_
      exact sm_retL (pc := 135) dX7_would_135
    · refine sm_aload_n (pc := 136) dX7_would_136 rfl 3 rfl ?_
      refine sm_getR (pc := 137) dX7_would_137 fr_RX7_29 (by decide) rfl (fun v137 => ?_)
      refine sm_getL (pc := 140) dX7_would_140 fr_RX7_183 (by decide) rfl (fun v140 => ?_)
      refine sm_aload (pc := 143) dX7_would_143 2 rfl ?_
      refine sm_getL (pc := 145) dX7_would_145 fr_RX7_183 (by decide) rfl (fun v145 => ?_)
      refine sm_lsub (pc := 148) dX7_would_148 ?_
      refine sm_lload (pc := 149) dX7_would_149 0 rfl ?_
      refine sm_lsub (pc := 151) dX7_would_151 ?_
      exact sm_retL (pc := 152) dX7_would_152
    · refine sm_lload (pc := 153) dX7_would_153 0 rfl ?_
      exact sm_retL (pc := 155) dX7_would_155
    · refine sm_lload (pc := 156) dX7_would_156 1 rfl ?_
      exact sm_retL (pc := 158) dX7_would_158
    · refine sm_aload_n (pc := 159) dX7_would_159 rfl 3 rfl ?_
      refine sm_getR (pc := 160) dX7_would_160 fr_RX7_29 (by decide) rfl (fun v160 => ?_)
      refine sm_getL (pc := 163) dX7_would_163 fr_RX7_122 (by decide) rfl (fun v163 => ?_)
      exact sm_retL (pc := 166) dX7_would_166
    refine sm_ldc2 (pc := 167) (-1 : Int64) dX7_would_167 kc_RX7_79 ?_
    exact sm_retL (pc := 170) dX7_would_170
  refine sm_sub [] rfl ?_
  exact sJ_X7_would_18 Z  S12
set_option maxRecDepth 20000 in
set_option maxHeartbeats 4000000 in
theorem m_X7_would (Z : ZT) (l : Launch) (c : Nat) (a1 : Int32) (a2 : Int64) (a3 : Int32) (S : St) {r : Int64} {S' : St} (h : F_X7_would c a1 a2 a3 S = some (r, S')) : MetX Z l yX7_would cX7_would 10 (some .long) rm_X7_would [.ref c, .int a1, .long a2, .int a3] S (eL r) S' := Sim.met (by decide +kernel) rfl (Nat.le_of_ble_eq_true rfl) (s_X7_would Z c a1 a2 a3 S) l h
set_option maxRecDepth 20000 in
set_option maxHeartbeats 4000000 in
theorem sJ_X7_sooner_18 (Z : ZT)    (S : St) : Sim eI Z rm_X7_sooner RX7 cX7_sooner 5 (some .int) 18 [] [] S (J_X7_sooner_18  S) := by
  unfold J_X7_sooner_18
  refine sm_iconst (pc := 18) (-1 : Int32) dX7_sooner_18 (by decide) ?_
  exact sm_retI (pc := 19) dX7_sooner_19
set_option maxRecDepth 20000 in
set_option maxHeartbeats 4000000 in
theorem s_X7_sooner (Z : ZT) (c : Nat) (a1 : Int32) (a2 : Int64) (S : St) : Sim eI Z rm_X7_sooner RX7 cX7_sooner 5 (some .int) 0 [(0, .ref c), (1, .int a1), (2, .long a2)] [] S (F_X7_sooner c a1 a2 S) := by
  unfold F_X7_sooner
  refine sm_aload_n (pc := 0) dX7_sooner_0 rfl 0 rfl ?_
  refine sm_getR (pc := 1) dX7_sooner_1 fr_RX7_10 (by decide) rfl (fun v1 => ?_)
  refine sm_iload_n (pc := 4) dX7_sooner_4 rfl 1 rfl ?_
  refine sm_callVI (pc := 5) [.int a1] (fun lq rq Sq hq => m_X1_has Z lq v1 a1 S hq) dX7_sooner_5 mi_X1_has ml_RX7_101 ⟨Nat.le_of_ble_eq_true rfl, Nat.le_of_ble_eq_true rfl, rfl, rfl⟩ rfl (by decide) rfl (Nat.le_of_ble_eq_true rfl) rfl (fun r5 S5 => ?_)
  refine sm_if_eq 18 (pc := 8) dX7_sooner_8 rfl ?_ ?_
  · refine sm_sub [] rfl ?_
    exact sJ_X7_sooner_18 Z  S5
  refine sm_lload_n (pc := 11) dX7_sooner_11 rfl 2 rfl ?_
  refine sm_callSI (pc := 12) [.long a2] (fun lq rq Sq hq => m_X7_isAmount Z lq a2 S5 hq) dX7_sooner_12 mi_X7_isAmount ml_RX7_104 ⟨Nat.le_of_ble_eq_true rfl, Nat.le_of_ble_eq_true rfl, rfl, rfl⟩ rfl (Nat.le_of_ble_eq_true rfl) rfl (fun r12 S12 => ?_)
  refine sm_if_ne 20 (pc := 15) dX7_sooner_15 rfl ?_ ?_
  · refine sm_aload_n (pc := 20) dX7_sooner_20 rfl 0 rfl ?_
    refine sm_getR (pc := 21) dX7_sooner_21 fr_RX7_36 (by decide) rfl (fun v21 => ?_)
    refine sm_aload_n (pc := 24) dX7_sooner_24 rfl 0 rfl ?_
    refine sm_getR (pc := 25) dX7_sooner_25 fr_RX7_10 (by decide) rfl (fun v25 => ?_)
    refine sm_getR (pc := 28) dX7_sooner_28 fr_RX7_108 (by decide) rfl (fun v28 => ?_)
    refine sm_iload_n (pc := 31) dX7_sooner_31 rfl 1 rfl ?_
    refine sm_aR (pc := 32) dX7_sooner_32 (by decide) (fun v32 => ?_)
    refine sm_callVV (pc := 33) [.ref v32] (fun lq rq Sq hq => m_X5_follow Z lq v21 v32 S12 hq) dX7_sooner_33 mi_X5_follow ml_RX7_189 ⟨Nat.le_of_ble_eq_true rfl, Nat.le_of_ble_eq_true rfl, rfl, rfl⟩ rfl (by decide) rfl (Nat.le_of_ble_eq_true rfl) rfl (fun _ S33 => ?_)
    refine sm_aload_n (pc := 36) dX7_sooner_36 rfl 0 rfl ?_
    refine sm_getR (pc := 37) dX7_sooner_37 fr_RX7_36 (by decide) rfl (fun v37 => ?_)
    refine sm_callVI (pc := 40) [] (fun lq rq Sq hq => m_X5_lastWithPrincipal Z lq v37 S33 hq) dX7_sooner_40 mi_X5_lastWithPrincipal ml_RX7_259 ⟨Nat.le_of_ble_eq_true rfl, Nat.le_of_ble_eq_true rfl, rfl, rfl⟩ rfl (by decide) rfl (Nat.le_of_ble_eq_true rfl) rfl (fun r40 S40 => ?_)
    refine sm_istore (pc := 43) (lv' := [(4, .int r40), (0, .ref c), (1, .int a1), (2, .long a2)]) dX7_sooner_43 (by decide) rfl ?_
    refine sm_aload_n (pc := 45) dX7_sooner_45 rfl 1 rfl ?_
    refine sm_getR (pc := 46) dX7_sooner_46 fr_RX7_29 (by decide) rfl (fun v46 => ?_)
    refine sm_aload_n (pc := 49) dX7_sooner_49 rfl 1 rfl ?_
    refine sm_getR (pc := 50) dX7_sooner_50 fr_RX7_10 (by decide) rfl (fun v50 => ?_)
    refine sm_getR (pc := 53) dX7_sooner_53 fr_RX7_108 (by decide) rfl (fun v53 => ?_)
    refine sm_iload_n (pc := 56) dX7_sooner_56 rfl 2 rfl ?_
    refine sm_aR (pc := 57) dX7_sooner_57 (by decide) (fun v57 => ?_)
    refine sm_callVV (pc := 58) [.ref v57] (fun lq rq Sq hq => m_X4_copyFrom Z lq v46 v57 S40 hq) dX7_sooner_58 mi_X4_copyFrom ml_RX7_256 ⟨Nat.le_of_ble_eq_true rfl, Nat.le_of_ble_eq_true rfl, rfl, rfl⟩ rfl (by decide) rfl (Nat.le_of_ble_eq_true rfl) rfl (fun _ S58 => ?_)
    refine sm_aload_n (pc := 61) dX7_sooner_61 rfl 1 rfl ?_
    refine sm_getR (pc := 62) dX7_sooner_62 fr_RX7_29 (by decide) rfl (fun v62 => ?_)
    refine sm_lload_n (pc := 65) dX7_sooner_65 rfl 3 rfl ?_
    refine sm_callVL (pc := 66) [.long a2] (fun lq rq Sq hq => m_X4_receive Z lq v62 a2 S58 hq) dX7_sooner_66 mi_X4_receive ml_RX7_112 ⟨Nat.le_of_ble_eq_true rfl, Nat.le_of_ble_eq_true rfl, rfl, rfl⟩ rfl (by decide) rfl (Nat.le_of_ble_eq_true rfl) rfl (fun r66 S66 => ?_)
    refine sm_pop2_2 (pc := 69) dX7_sooner_69 rfl ?_
    refine sm_aload_n (pc := 70) dX7_sooner_70 rfl 1 rfl ?_
    refine sm_getR (pc := 71) dX7_sooner_71 fr_RX7_36 (by decide) rfl (fun v71 => ?_)
    refine sm_aload_n (pc := 74) dX7_sooner_74 rfl 1 rfl ?_
    refine sm_getR (pc := 75) dX7_sooner_75 fr_RX7_29 (by decide) rfl (fun v75 => ?_)
    refine sm_callVV (pc := 78) [.ref v75] (fun lq rq Sq hq => m_X5_follow Z lq v71 v75 S66 hq) dX7_sooner_78 mi_X5_follow ml_RX7_189 ⟨Nat.le_of_ble_eq_true rfl, Nat.le_of_ble_eq_true rfl, rfl, rfl⟩ rfl (by decide) rfl (Nat.le_of_ble_eq_true rfl) rfl (fun _ S78 => ?_)
    refine sm_iconst (pc := 81) (0 : Int32) dX7_sooner_81 (by decide) ?_
    refine sm_iload (pc := 82) dX7_sooner_82 0 rfl ?_
    refine sm_aload_n (pc := 84) dX7_sooner_84 rfl 1 rfl ?_
    refine sm_getR (pc := 85) dX7_sooner_85 fr_RX7_36 (by decide) rfl (fun v85 => ?_)
    refine sm_callVI (pc := 88) [] (fun lq rq Sq hq => m_X5_lastWithPrincipal Z lq v85 S78 hq) dX7_sooner_88 mi_X5_lastWithPrincipal ml_RX7_259 ⟨Nat.le_of_ble_eq_true rfl, Nat.le_of_ble_eq_true rfl, rfl, rfl⟩ rfl (by decide) rfl (Nat.le_of_ble_eq_true rfl) rfl (fun r88 S88 => ?_)
    refine sm_isub (pc := 91) dX7_sooner_91 ?_
    refine sm_callSI (pc := 92) [.int (0 : Int32), .int (r40 - r88)] (fun lq rq Sq hq => m_J9_max_7cf53 Z lq (0 : Int32) (r40 - r88) S88 hq) dX7_sooner_92 mi_J9_max_7cf53 ml_RX7_262 ⟨Nat.le_of_ble_eq_true rfl, Nat.le_of_ble_eq_true rfl, rfl, rfl⟩ rfl (Nat.le_of_ble_eq_true rfl) rfl (fun r92 S92 => ?_)
    exact sm_retI (pc := 95) dX7_sooner_95
  refine sm_sub [] rfl ?_
  exact sJ_X7_sooner_18 Z  S12
set_option maxRecDepth 20000 in
set_option maxHeartbeats 4000000 in
theorem m_X7_sooner (Z : ZT) (l : Launch) (c : Nat) (a1 : Int32) (a2 : Int64) (S : St) {r : Int32} {S' : St} (h : F_X7_sooner c a1 a2 S = some (r, S')) : MetX Z l yX7_sooner cX7_sooner 5 (some .int) rm_X7_sooner [.ref c, .int a1, .long a2] S (eI r) S' := Sim.met (by decide +kernel) rfl (Nat.le_of_ble_eq_true rfl) (s_X7_sooner Z c a1 a2 S) l h
set_option maxRecDepth 20000 in
set_option maxHeartbeats 4000000 in
theorem s_X7_isHolder (Z : ZT) (a1 : Int32) (S : St) : Sim eI Z rm_X7_isHolder RX7 cX7_isHolder 1 (some .boolean) 0 [(0, .int a1)] [] S (F_X7_isHolder a1 S) := by
  unfold F_X7_isHolder
  refine sm_iload_n (pc := 0) dX7_isHolder_0 rfl 0 rfl ?_
  refine sm_iconst (pc := 1) (0 : Int32) dX7_isHolder_1 (by decide) ?_
  refine sm_iconst (pc := 2) (5 : Int32) dX7_isHolder_2 (by decide) ?_
  refine sm_callSI (pc := 3) [.int a1, .int (0 : Int32), .int (5 : Int32)] (fun lq rq Sq hq => m_X7_isWithin Z lq a1 (0 : Int32) (5 : Int32) S hq) dX7_isHolder_3 mi_X7_isWithin ml_RX7_67 ⟨Nat.le_of_ble_eq_true rfl, Nat.le_of_ble_eq_true rfl, rfl, rfl⟩ rfl (Nat.le_of_ble_eq_true rfl) rfl (fun r3 S3 => ?_)
  exact sm_retZ (pc := 6) dX7_isHolder_6
set_option maxRecDepth 20000 in
set_option maxHeartbeats 4000000 in
theorem m_X7_isHolder (Z : ZT) (l : Launch) (a1 : Int32) (S : St) {r : Int32} {S' : St} (h : F_X7_isHolder a1 S = some (r, S')) : MetX Z l yX7_isHolder cX7_isHolder 1 (some .boolean) rm_X7_isHolder [.int a1] S (eI r) S' := Sim.met (by decide +kernel) rfl (Nat.le_of_ble_eq_true rfl) (s_X7_isHolder Z a1 S) l h
set_option maxRecDepth 20000 in
set_option maxHeartbeats 4000000 in
theorem sJ_X7_judge_18 (Z : ZT)    (S : St) : Sim eI Z rm_X7_judge RX7 cX7_judge 6 (some .int) 18 [] [] S (J_X7_judge_18  S) := by
  unfold J_X7_judge_18
  refine sm_iconst (pc := 18) (-1 : Int32) dX7_judge_18 (by decide) ?_
  exact sm_retI (pc := 19) dX7_judge_19
set_option maxRecDepth 20000 in
set_option maxHeartbeats 4000000 in
theorem sJ_X7_judge_49 (Z : ZT)   (t0 : Int32) (S : St) : Sim eI Z rm_X7_judge RX7 cX7_judge 6 (some .int) 49 [] [.int t0] S (J_X7_judge_49  t0 S) := by
  unfold J_X7_judge_49
  exact sm_retI (pc := 49) dX7_judge_49
set_option maxRecDepth 20000 in
set_option maxHeartbeats 4000000 in
theorem sJ_X7_judge_122 (Z : ZT)  (x5 : Int32)  (S : St) : Sim eI Z rm_X7_judge RX7 cX7_judge 6 (some .int) 122 [(5, .int x5)] [] S (J_X7_judge_122  x5 S) := by
  unfold J_X7_judge_122
  refine sm_iload (pc := 122) dX7_judge_122 0 rfl ?_
  exact sm_retI (pc := 124) dX7_judge_124
set_option maxRecDepth 20000 in
set_option maxHeartbeats 4000000 in
theorem sJ_X7_judge_149 (Z : ZT)   (t0 : Int32) (S : St) : Sim eI Z rm_X7_judge RX7 cX7_judge 6 (some .int) 149 [] [.int t0] S (J_X7_judge_149  t0 S) := by
  unfold J_X7_judge_149
  exact sm_retI (pc := 149) dX7_judge_149
set_option maxRecDepth 20000 in
set_option maxHeartbeats 4000000 in
theorem sB_X7_judge_78 (Z : ZT) (rec78 : (Nat → Nat → Int32 → Int32 → St → Option (Int32 × St))) (h78 : ∀ (x0 : Nat) (x3 : Nat) (x4 : Int32) (x5 : Int32)  (S : St), Sim eI Z rm_X7_judge RX7 cX7_judge 6 (some .int) 78 [(0, .ref x0), (3, .ref x3), (4, .int x4), (5, .int x5)] [] S (rec78 x0 x3 x4 x5 S)) (x0 : Nat) (x3 : Nat) (x4 : Int32) (x5 : Int32)  (S : St) : Sim eI Z rm_X7_judge RX7 cX7_judge 6 (some .int) 78 [(0, .ref x0), (3, .ref x3), (4, .int x4), (5, .int x5)] [] S (B_X7_judge_78 rec78 x0 x3 x4 x5 S) := by
  unfold B_X7_judge_78
  refine sm_iload (pc := 78) dX7_judge_78 3 rfl ?_
  refine sm_aload_n (pc := 80) dX7_judge_80 rfl 1 rfl ?_
  refine sm_getI (pc := 81) dX7_judge_81 fr_RX7_274 (by decide) rfl (fun v81 => ?_)
  refine sm_icmp_ge 131 (pc := 84) dX7_judge_84 rfl ?_ ?_
  · refine sm_iload (pc := 131) dX7_judge_131 2 rfl ?_
    refine sm_aload_n (pc := 133) dX7_judge_133 rfl 1 rfl ?_
    refine sm_getI (pc := 134) dX7_judge_134 fr_RX7_274 (by decide) rfl (fun v134 => ?_)
    refine sm_icmp_le 147 (pc := 137) dX7_judge_137 rfl ?_ ?_
    · refine sm_bipush (pc := 147) (-2 : Int32) dX7_judge_147 (by decide) ?_
      refine sm_sub [] rfl ?_
      exact sJ_X7_judge_149 Z  (-2 : Int32) S
    refine sm_aload_n (pc := 140) dX7_judge_140 rfl 1 rfl ?_
    refine sm_getI (pc := 141) dX7_judge_141 fr_RX7_274 (by decide) rfl (fun v141 => ?_)
    refine sm_goto 149 (pc := 144) dX7_judge_144 rfl ?_
    refine sm_sub [] rfl ?_
    exact sJ_X7_judge_149 Z  v141 S
  refine sm_iload (pc := 87) dX7_judge_87 3 rfl ?_
  refine sm_iload (pc := 89) dX7_judge_89 2 rfl ?_
  refine sm_icmp_ge 122 (pc := 91) dX7_judge_91 rfl ?_ ?_
  · refine sm_sub [3] rfl ?_
    exact sJ_X7_judge_122 Z  x5 S
  refine sm_aload_n (pc := 94) dX7_judge_94 rfl 1 rfl ?_
  refine sm_getR (pc := 95) dX7_judge_95 fr_RX7_275 (by decide) rfl (fun v95 => ?_)
  refine sm_iload (pc := 98) dX7_judge_98 3 rfl ?_
  refine sm_aJ (pc := 100) dX7_judge_100 (fun v100 => ?_)
  refine sm_aload_n (pc := 101) dX7_judge_101 rfl 0 rfl ?_
  refine sm_getR (pc := 102) dX7_judge_102 fr_RX7_36 (by decide) rfl (fun v102 => ?_)
  refine sm_getR (pc := 105) dX7_judge_105 fr_RX7_215 (by decide) rfl (fun v105 => ?_)
  refine sm_aload_n (pc := 108) dX7_judge_108 rfl 0 rfl ?_
  refine sm_getR (pc := 109) dX7_judge_109 fr_RX7_36 (by decide) rfl (fun v109 => ?_)
  refine sm_iload (pc := 112) dX7_judge_112 3 rfl ?_
  refine sm_callVI (pc := 114) [.int x5] (fun lq rq Sq hq => m_X5_periodOfBill Z lq v109 x5 S hq) dX7_judge_114 mi_X5_periodOfBill ml_RX7_211 ⟨Nat.le_of_ble_eq_true rfl, Nat.le_of_ble_eq_true rfl, rfl, rfl⟩ rfl (by decide) rfl (Nat.le_of_ble_eq_true rfl) rfl (fun r114 S114 => ?_)
  refine sm_aJ (pc := 117) dX7_judge_117 (fun v117 => ?_)
  refine sm_lcmp_eq 125 (pc := 118) dX7_judge_118 dX7_judge_119 rfl ?_ ?_
  · refine sm_iinc (pc := 125) (x5 + 1) (lv' := [(5, .int (x5 + 1)), (0, .ref x0), (3, .ref x3), (4, .int x4)]) dX7_judge_125 3 rfl rfl (by decide) rfl ?_
    refine sm_goto 78 (pc := 128) dX7_judge_128 rfl ?_
    refine sm_sub [1, 2, 3, 0] rfl ?_
    exact h78 x0 x3 x4 (x5 + 1) S114
  refine sm_sub [3] rfl ?_
  exact sJ_X7_judge_122 Z  x5 S114
set_option maxRecDepth 20000 in
set_option maxHeartbeats 4000000 in
theorem sL_X7_judge_78 (Z : ZT)  (n : Nat) : ∀ (x0 : Nat) (x3 : Nat) (x4 : Int32) (x5 : Int32)  (S : St), Sim eI Z rm_X7_judge RX7 cX7_judge 6 (some .int) 78 [(0, .ref x0), (3, .ref x3), (4, .int x4), (5, .int x5)] [] S (L_X7_judge_78  n x0 x3 x4 x5 S) := by
  induction n with
  | zero => intros; exact sm_none
  | succ n ih => intro x0 x3 x4 x5 S; exact sB_X7_judge_78 Z  (L_X7_judge_78  n) ih x0 x3 x4 x5 S
set_option maxRecDepth 20000 in
set_option maxHeartbeats 4000000 in
theorem s_X7_judge (Z : ZT) (c : Nat) (a1 : Int32) (a2 : Int32) (S : St) : Sim eI Z rm_X7_judge RX7 cX7_judge 6 (some .int) 0 [(0, .ref c), (1, .int a1), (2, .int a2)] [] S (F_X7_judge c a1 a2 S) := by
  unfold F_X7_judge
  refine sm_iload_n (pc := 0) dX7_judge_0 rfl 1 rfl ?_
  refine sm_callSI (pc := 1) [.int a1] (fun lq rq Sq hq => m_X7_isHolder Z lq a1 S hq) dX7_judge_1 mi_X7_isHolder ml_RX7_268 ⟨Nat.le_of_ble_eq_true rfl, Nat.le_of_ble_eq_true rfl, rfl, rfl⟩ rfl (Nat.le_of_ble_eq_true rfl) rfl (fun r1 S1 => ?_)
  refine sm_if_eq 18 (pc := 4) dX7_judge_4 rfl ?_ ?_
  · refine sm_sub [] rfl ?_
    exact sJ_X7_judge_18 Z  S1
  refine sm_aload_n (pc := 7) dX7_judge_7 rfl 0 rfl ?_
  refine sm_getR (pc := 8) dX7_judge_8 fr_RX7_10 (by decide) rfl (fun v8 => ?_)
  refine sm_iload_n (pc := 11) dX7_judge_11 rfl 2 rfl ?_
  refine sm_callVI (pc := 12) [.int a2] (fun lq rq Sq hq => m_X1_has Z lq v8 a2 S1 hq) dX7_judge_12 mi_X1_has ml_RX7_101 ⟨Nat.le_of_ble_eq_true rfl, Nat.le_of_ble_eq_true rfl, rfl, rfl⟩ rfl (by decide) rfl (Nat.le_of_ble_eq_true rfl) rfl (fun r12 S12 => ?_)
  refine sm_if_ne 20 (pc := 15) dX7_judge_15 rfl ?_ ?_
  · refine sm_aload_n (pc := 20) dX7_judge_20 rfl 0 rfl ?_
    refine sm_getR (pc := 21) dX7_judge_21 fr_RX7_49 (by decide) rfl (fun v21 => ?_)
    refine sm_iload_n (pc := 24) dX7_judge_24 rfl 1 rfl ?_
    refine sm_aR (pc := 25) dX7_judge_25 (by decide) (fun v25 => ?_)
    refine sm_astore_n (pc := 26) (lv' := [(3, .ref v25), (0, .ref c), (1, .int a1), (2, .int a2)]) dX7_judge_26 rfl (by decide) rfl ?_
    refine sm_aload_n (pc := 27) dX7_judge_27 rfl 0 rfl ?_
    refine sm_getI (pc := 28) dX7_judge_28 fr_RX7_271 (by decide) rfl (fun v28 => ?_)
    refine sm_iconst (pc := 31) (3 : Int32) dX7_judge_31 (by decide) ?_
    refine sm_icmp_eq 50 (pc := 32) dX7_judge_32 rfl ?_ ?_
    · refine sm_aload_n (pc := 50) dX7_judge_50 rfl 1 rfl ?_
      refine sm_getR (pc := 51) dX7_judge_51 fr_RX7_36 (by decide) rfl (fun v51 => ?_)
      refine sm_aload_n (pc := 54) dX7_judge_54 rfl 1 rfl ?_
      refine sm_getR (pc := 55) dX7_judge_55 fr_RX7_10 (by decide) rfl (fun v55 => ?_)
      refine sm_getR (pc := 58) dX7_judge_58 fr_RX7_108 (by decide) rfl (fun v58 => ?_)
      refine sm_iload_n (pc := 61) dX7_judge_61 rfl 3 rfl ?_
      refine sm_aR (pc := 62) dX7_judge_62 (by decide) (fun v62 => ?_)
      refine sm_callVV (pc := 63) [.ref v62] (fun lq rq Sq hq => m_X5_follow Z lq v51 v62 S12 hq) dX7_judge_63 mi_X5_follow ml_RX7_189 ⟨Nat.le_of_ble_eq_true rfl, Nat.le_of_ble_eq_true rfl, rfl, rfl⟩ rfl (by decide) rfl (Nat.le_of_ble_eq_true rfl) rfl (fun _ S63 => ?_)
      refine sm_aload_n (pc := 66) dX7_judge_66 rfl 1 rfl ?_
      refine sm_getR (pc := 67) dX7_judge_67 fr_RX7_36 (by decide) rfl (fun v67 => ?_)
      refine sm_callVI (pc := 70) [] (fun lq rq Sq hq => m_X5_bills Z lq v67 S63 hq) dX7_judge_70 mi_X5_bills ml_RX7_220 ⟨Nat.le_of_ble_eq_true rfl, Nat.le_of_ble_eq_true rfl, rfl, rfl⟩ rfl (by decide) rfl (Nat.le_of_ble_eq_true rfl) rfl (fun r70 S70 => ?_)
      refine sm_istore (pc := 73) (lv' := [(4, .int r70), (3, .ref v25), (0, .ref c), (1, .int a1), (2, .int a2)]) dX7_judge_73 (by decide) rfl ?_
      refine sm_iconst (pc := 75) (0 : Int32) dX7_judge_75 (by decide) ?_
      refine sm_istore (pc := 76) (lv' := [(5, .int (0 : Int32)), (4, .int r70), (3, .ref v25), (0, .ref c), (1, .int a1), (2, .int a2)]) dX7_judge_76 (by decide) rfl ?_
      refine sm_sub [3, 2, 1, 0] rfl ?_
      exact sL_X7_judge_78 Z  6000 c v25 r70 (0 : Int32) S70
    refine sm_aload_n (pc := 35) dX7_judge_35 rfl 0 rfl ?_
    refine sm_getI (pc := 36) dX7_judge_36 fr_RX7_271 (by decide) rfl (fun v36 => ?_)
    refine sm_if_ne 47 (pc := 39) dX7_judge_39 rfl ?_ ?_
    · refine sm_bipush (pc := 47) (-12 : Int32) dX7_judge_47 (by decide) ?_
      refine sm_sub [] rfl ?_
      exact sJ_X7_judge_49 Z  (-12 : Int32) S12
    refine sm_bipush (pc := 42) (-11 : Int32) dX7_judge_42 (by decide) ?_
    refine sm_goto 49 (pc := 44) dX7_judge_44 rfl ?_
    refine sm_sub [] rfl ?_
    exact sJ_X7_judge_49 Z  (-11 : Int32) S12
  refine sm_sub [] rfl ?_
  exact sJ_X7_judge_18 Z  S12
set_option maxRecDepth 20000 in
set_option maxHeartbeats 4000000 in
theorem m_X7_judge (Z : ZT) (l : Launch) (c : Nat) (a1 : Int32) (a2 : Int32) (S : St) {r : Int32} {S' : St} (h : F_X7_judge c a1 a2 S = some (r, S')) : MetX Z l yX7_judge cX7_judge 6 (some .int) rm_X7_judge [.ref c, .int a1, .int a2] S (eI r) S' := Sim.met (by decide +kernel) rfl (Nat.le_of_ble_eq_true rfl) (s_X7_judge Z c a1 a2 S) l h
set_option maxRecDepth 20000 in
set_option maxHeartbeats 4000000 in
theorem s_X7_feed (Z : ZT) (c : Nat) (a1 : Int32) (S : St) : Sim eI Z rm_X7_feed RX7 cX7_feed 2 (some .int) 0 [(0, .ref c), (1, .int a1)] [] S (F_X7_feed c a1 S) := by
  unfold F_X7_feed
  refine sm_iload_n (pc := 0) dX7_feed_0 rfl 1 rfl ?_
  refine sm_iconst (pc := 1) (0 : Int32) dX7_feed_1 (by decide) ?_
  refine sm_sipush (pc := 2) (255 : Int32) dX7_feed_2 (by decide) ?_
  refine sm_callSI (pc := 5) [.int a1, .int (0 : Int32), .int (255 : Int32)] (fun lq rq Sq hq => m_X7_isWithin Z lq a1 (0 : Int32) (255 : Int32) S hq) dX7_feed_5 mi_X7_isWithin ml_RX7_67 ⟨Nat.le_of_ble_eq_true rfl, Nat.le_of_ble_eq_true rfl, rfl, rfl⟩ rfl (Nat.le_of_ble_eq_true rfl) rfl (fun r5 S5 => ?_)
  refine sm_if_ne 13 (pc := 8) dX7_feed_8 rfl ?_ ?_
  · refine sm_aload_n (pc := 13) dX7_feed_13 rfl 0 rfl ?_
    refine sm_getR (pc := 14) dX7_feed_14 fr_RX7_43 (by decide) rfl (fun v14 => ?_)
    refine sm_getI (pc := 17) dX7_feed_17 fr_RX7_278 (by decide) rfl (fun v17 => ?_)
    refine sm_bipush (pc := 20) (120 : Int32) dX7_feed_20 (by decide) ?_
    refine sm_icmp_lt 28 (pc := 22) dX7_feed_22 rfl ?_ ?_
    · refine sm_aload_n (pc := 28) dX7_feed_28 rfl 0 rfl ?_
      refine sm_getR (pc := 29) dX7_feed_29 fr_RX7_43 (by decide) rfl (fun v29 => ?_)
      refine sm_getR (pc := 32) dX7_feed_32 fr_RX7_281 (by decide) rfl (fun v32 => ?_)
      refine sm_aload_n (pc := 35) dX7_feed_35 rfl 0 rfl ?_
      refine sm_getR (pc := 36) dX7_feed_36 fr_RX7_43 (by decide) rfl (fun v36 => ?_)
      refine sm_getI (pc := 39) dX7_feed_39 fr_RX7_278 (by decide) rfl (fun v39 => ?_)
      refine sm_iload_n (pc := 42) dX7_feed_42 rfl 1 rfl ?_
      refine sm_sI (pc := 43) dX7_feed_43 (fun S43 => ?_)
      refine sm_aload_n (pc := 44) dX7_feed_44 rfl 0 rfl ?_
      refine sm_getR (pc := 45) dX7_feed_45 fr_RX7_43 (by decide) rfl (fun v45 => ?_)
      refine sm_dup (pc := 48) dX7_feed_48 rfl ?_
      refine sm_getI (pc := 49) dX7_feed_49 fr_RX7_278 (by decide) rfl (fun v49 => ?_)
      refine sm_iconst (pc := 52) (1 : Int32) dX7_feed_52 (by decide) ?_
      refine sm_iadd (pc := 53) dX7_feed_53 ?_
      refine sm_putI (pc := 54) dX7_feed_54 fw_RX7_278 (by decide) rfl (fun S54 => ?_)
      refine sm_aload_n (pc := 57) dX7_feed_57 rfl 0 rfl ?_
      refine sm_getR (pc := 58) dX7_feed_58 fr_RX7_43 (by decide) rfl (fun v58 => ?_)
      refine sm_getI (pc := 61) dX7_feed_61 fr_RX7_278 (by decide) rfl (fun v61 => ?_)
      exact sm_retI (pc := 64) dX7_feed_64
    refine sm_bipush (pc := 25) (-3 : Int32) dX7_feed_25 (by decide) ?_
    exact sm_retI (pc := 27) dX7_feed_27
  refine sm_iconst (pc := 11) (-1 : Int32) dX7_feed_11 (by decide) ?_
  exact sm_retI (pc := 12) dX7_feed_12
set_option maxRecDepth 20000 in
set_option maxHeartbeats 4000000 in
theorem m_X7_feed (Z : ZT) (l : Launch) (c : Nat) (a1 : Int32) (S : St) {r : Int32} {S' : St} (h : F_X7_feed c a1 S = some (r, S')) : MetX Z l yX7_feed cX7_feed 2 (some .int) rm_X7_feed [.ref c, .int a1] S (eI r) S' := Sim.met (by decide +kernel) rfl (Nat.le_of_ble_eq_true rfl) (s_X7_feed Z c a1 S) l h
set_option maxRecDepth 20000 in
set_option maxHeartbeats 4000000 in
theorem sJ_X7_doLine_196 (Z : ZT)    (S : St) : Sim eL Z rm_X7_doLine RX7 cX7_doLine 2 (some .long) 196 [] [] S (J_X7_doLine_196  S) := by
  unfold J_X7_doLine_196
  refine sm_ldc2 (pc := 196) (-1 : Int64) dX7_doLine_196 kc_RX7_79 ?_
  exact sm_retL (pc := 199) dX7_doLine_199
set_option maxRecDepth 20000 in
set_option maxHeartbeats 4000000 in
theorem s_X7_doLine (Z : ZT) (c : Nat) (S : St) : Sim eL Z rm_X7_doLine RX7 cX7_doLine 2 (some .long) 0 [(0, .ref c)] [] S (F_X7_doLine c S) := by
  unfold F_X7_doLine
  refine sm_aload_n (pc := 0) dX7_doLine_0 rfl 0 rfl ?_
  refine sm_getR (pc := 1) dX7_doLine_1 fr_RX7_43 (by decide) rfl (fun v1 => ?_)
  refine sm_getR (pc := 4) dX7_doLine_4 fr_RX7_340 (by decide) rfl (fun v4 => ?_)
  refine sm_astore_n (pc := 7) (lv' := [(1, .ref v4), (0, .ref c)]) dX7_doLine_7 rfl (by decide) rfl ?_
  refine sm_aload_n (pc := 8) dX7_doLine_8 rfl 1 rfl ?_
  refine sm_getR (pc := 9) dX7_doLine_9 fr_RX7_43 (by decide) rfl (fun v9 => ?_)
  refine sm_getI (pc := 12) dX7_doLine_12 fr_RX7_343 (by decide) rfl (fun v12 => ?_)
  refine sm_tswk (pc := 15) 196 [159, 196, 186, 176, 196, 196, 196, 196, 108, 196, 196, 196, 136, 196, 148, 196, 196, 196, 196, 168] [100, 101, 102, 103, 104, 105, 106, 107, 108, 109, 110, 111, 112, 113, 114, 115, 116, 117, 118, 119] dX7_doLine_15 rfl (by decide) (by decide) (by decide) rfl ⟨?_, ?_, ?_, ?_, ?_, ?_, ?_, ?_, ?_, ?_, ?_, ?_, ?_, ?_, ?_, ?_, ?_, ?_, ?_, ?_, trivial⟩ ?_
  · refine sm_aload_n (pc := 159) dX7_doLine_159 rfl 1 rfl ?_
    refine sm_aload_n (pc := 160) dX7_doLine_160 rfl 0 rfl ?_
    refine sm_iconst (pc := 161) (0 : Int32) dX7_doLine_161 (by decide) ?_
    refine sm_aI (pc := 162) dX7_doLine_162 (fun v162 => ?_)
    refine sm_callVI (pc := 163) [.int v162] (fun lq rq Sq hq => m_X7_days Z lq c v162 S hq) dX7_doLine_163 mi_X7_days ml_RX7_353 ⟨Nat.le_of_ble_eq_true rfl, Nat.le_of_ble_eq_true rfl, rfl, rfl⟩ rfl (by decide) rfl (Nat.le_of_ble_eq_true rfl) rfl (fun r163 S163 => ?_)
    refine sm_i2l (pc := 166) dX7_doLine_166 ?_
    exact sm_retL (pc := 167) dX7_doLine_167
  · refine sm_sub [] rfl ?_
    exact sJ_X7_doLine_196 Z  S
  · refine sm_aload_n (pc := 186) dX7_doLine_186 rfl 1 rfl ?_
    refine sm_iconst (pc := 187) (1 : Int32) dX7_doLine_187 (by decide) ?_
    refine sm_aload_n (pc := 188) dX7_doLine_188 rfl 0 rfl ?_
    refine sm_iconst (pc := 189) (0 : Int32) dX7_doLine_189 (by decide) ?_
    refine sm_aI (pc := 190) dX7_doLine_190 (fun v190 => ?_)
    refine sm_callVI (pc := 191) [.int (1 : Int32), .int v190] (fun lq rq Sq hq => m_X7_rule Z lq c (1 : Int32) v190 S hq) dX7_doLine_191 mi_X7_rule ml_RX7_359 ⟨Nat.le_of_ble_eq_true rfl, Nat.le_of_ble_eq_true rfl, rfl, rfl⟩ rfl (by decide) rfl (Nat.le_of_ble_eq_true rfl) rfl (fun r191 S191 => ?_)
    refine sm_i2l (pc := 194) dX7_doLine_194 ?_
    exact sm_retL (pc := 195) dX7_doLine_195
  · refine sm_aload_n (pc := 176) dX7_doLine_176 rfl 1 rfl ?_
    refine sm_iconst (pc := 177) (0 : Int32) dX7_doLine_177 (by decide) ?_
    refine sm_aload_n (pc := 178) dX7_doLine_178 rfl 0 rfl ?_
    refine sm_iconst (pc := 179) (0 : Int32) dX7_doLine_179 (by decide) ?_
    refine sm_aI (pc := 180) dX7_doLine_180 (fun v180 => ?_)
    refine sm_callVI (pc := 181) [.int (0 : Int32), .int v180] (fun lq rq Sq hq => m_X7_rule Z lq c (0 : Int32) v180 S hq) dX7_doLine_181 mi_X7_rule ml_RX7_359 ⟨Nat.le_of_ble_eq_true rfl, Nat.le_of_ble_eq_true rfl, rfl, rfl⟩ rfl (by decide) rfl (Nat.le_of_ble_eq_true rfl) rfl (fun r181 S181 => ?_)
    refine sm_i2l (pc := 184) dX7_doLine_184 ?_
    exact sm_retL (pc := 185) dX7_doLine_185
  · refine sm_sub [] rfl ?_
    exact sJ_X7_doLine_196 Z  S
  · refine sm_sub [] rfl ?_
    exact sJ_X7_doLine_196 Z  S
  · refine sm_sub [] rfl ?_
    exact sJ_X7_doLine_196 Z  S
  · refine sm_sub [] rfl ?_
    exact sJ_X7_doLine_196 Z  S
  · refine sm_aload_n (pc := 108) dX7_doLine_108 rfl 1 rfl ?_
    refine sm_getR (pc := 109) dX7_doLine_109 fr_RX7_10 (by decide) rfl (fun v109 => ?_)
    refine sm_aload_n (pc := 112) dX7_doLine_112 rfl 0 rfl ?_
    refine sm_iconst (pc := 113) (0 : Int32) dX7_doLine_113 (by decide) ?_
    refine sm_aI (pc := 114) dX7_doLine_114 (fun v114 => ?_)
    refine sm_i2l (pc := 115) dX7_doLine_115 ?_
    refine sm_aload_n (pc := 116) dX7_doLine_116 rfl 0 rfl ?_
    refine sm_iconst (pc := 117) (1 : Int32) dX7_doLine_117 (by decide) ?_
    refine sm_aI (pc := 118) dX7_doLine_118 (fun v118 => ?_)
    refine sm_aload_n (pc := 119) dX7_doLine_119 rfl 0 rfl ?_
    refine sm_iconst (pc := 120) (2 : Int32) dX7_doLine_120 (by decide) ?_
    refine sm_aI (pc := 121) dX7_doLine_121 (fun v121 => ?_)
    refine sm_aload_n (pc := 122) dX7_doLine_122 rfl 0 rfl ?_
    refine sm_iconst (pc := 123) (3 : Int32) dX7_doLine_123 (by decide) ?_
    refine sm_aI (pc := 124) dX7_doLine_124 (fun v124 => ?_)
    refine sm_aload_n (pc := 125) dX7_doLine_125 rfl 0 rfl ?_
    refine sm_iconst (pc := 126) (5 : Int32) dX7_doLine_126 (by decide) ?_
    refine sm_aI (pc := 127) dX7_doLine_127 (fun v127 => ?_)
    refine sm_aload_n (pc := 128) dX7_doLine_128 rfl 0 rfl ?_
    refine sm_iconst (pc := 129) (4 : Int32) dX7_doLine_129 (by decide) ?_
    refine sm_aI (pc := 130) dX7_doLine_130 (fun v130 => ?_)
    refine sm_callVI (pc := 131) [.long (Int32.toInt64 v114), .int v118, .int v121, .int v124, .int v127, .int v130] (fun lq rq Sq hq => m_X1_lend Z lq v109 (Int32.toInt64 v114) v118 v121 v124 v127 v130 S hq) dX7_doLine_131 mi_X1_lend ml_RX7_89 ⟨Nat.le_of_ble_eq_true rfl, Nat.le_of_ble_eq_true rfl, rfl, rfl⟩ rfl (by decide) rfl (Nat.le_of_ble_eq_true rfl) rfl (fun r131 S131 => ?_)
    refine sm_i2l (pc := 134) dX7_doLine_134 ?_
    exact sm_retL (pc := 135) dX7_doLine_135
  · refine sm_sub [] rfl ?_
    exact sJ_X7_doLine_196 Z  S
  · refine sm_sub [] rfl ?_
    exact sJ_X7_doLine_196 Z  S
  · refine sm_sub [] rfl ?_
    exact sJ_X7_doLine_196 Z  S
  · refine sm_aload_n (pc := 136) dX7_doLine_136 rfl 1 rfl ?_
    refine sm_aload_n (pc := 137) dX7_doLine_137 rfl 0 rfl ?_
    refine sm_iconst (pc := 138) (0 : Int32) dX7_doLine_138 (by decide) ?_
    refine sm_aI (pc := 139) dX7_doLine_139 (fun v139 => ?_)
    refine sm_aload_n (pc := 140) dX7_doLine_140 rfl 0 rfl ?_
    refine sm_iconst (pc := 141) (1 : Int32) dX7_doLine_141 (by decide) ?_
    refine sm_aI (pc := 142) dX7_doLine_142 (fun v142 => ?_)
    refine sm_i2l (pc := 143) dX7_doLine_143 ?_
    refine sm_callVL (pc := 144) [.int v139, .long (Int32.toInt64 v142)] (fun lq rq Sq hq => m_X7_pay Z lq c v139 (Int32.toInt64 v142) S hq) dX7_doLine_144 mi_X7_pay ml_RX7_346 ⟨Nat.le_of_ble_eq_true rfl, Nat.le_of_ble_eq_true rfl, rfl, rfl⟩ rfl (by decide) rfl (Nat.le_of_ble_eq_true rfl) rfl (fun r144 S144 => ?_)
    exact sm_retL (pc := 147) dX7_doLine_147
  · refine sm_sub [] rfl ?_
    exact sJ_X7_doLine_196 Z  S
  · refine sm_aload_n (pc := 148) dX7_doLine_148 rfl 1 rfl ?_
    refine sm_aload_n (pc := 149) dX7_doLine_149 rfl 0 rfl ?_
    refine sm_iconst (pc := 150) (0 : Int32) dX7_doLine_150 (by decide) ?_
    refine sm_aI (pc := 151) dX7_doLine_151 (fun v151 => ?_)
    refine sm_aload_n (pc := 152) dX7_doLine_152 rfl 0 rfl ?_
    refine sm_iconst (pc := 153) (1 : Int32) dX7_doLine_153 (by decide) ?_
    refine sm_aI (pc := 154) dX7_doLine_154 (fun v154 => ?_)
    refine sm_callVL (pc := 155) [.int v151, .int v154] (fun lq rq Sq hq => m_X7_reset Z lq c v151 v154 S hq) dX7_doLine_155 mi_X7_reset ml_RX7_350 ⟨Nat.le_of_ble_eq_true rfl, Nat.le_of_ble_eq_true rfl, rfl, rfl⟩ rfl (by decide) rfl (Nat.le_of_ble_eq_true rfl) rfl (fun r155 S155 => ?_)
    exact sm_retL (pc := 158) dX7_doLine_158
  · refine sm_sub [] rfl ?_
    exact sJ_X7_doLine_196 Z  S
  · refine sm_sub [] rfl ?_
    exact sJ_X7_doLine_196 Z  S
  · refine sm_sub [] rfl ?_
    exact sJ_X7_doLine_196 Z  S
  · refine sm_sub [] rfl ?_
    exact sJ_X7_doLine_196 Z  S
  · refine sm_aload_n (pc := 168) dX7_doLine_168 rfl 1 rfl ?_
    refine sm_aload_n (pc := 169) dX7_doLine_169 rfl 0 rfl ?_
    refine sm_iconst (pc := 170) (0 : Int32) dX7_doLine_170 (by decide) ?_
    refine sm_aI (pc := 171) dX7_doLine_171 (fun v171 => ?_)
    refine sm_callVL (pc := 172) [.int v171] (fun lq rq Sq hq => m_X7_writeOff Z lq c v171 S hq) dX7_doLine_172 mi_X7_writeOff ml_RX7_356 ⟨Nat.le_of_ble_eq_true rfl, Nat.le_of_ble_eq_true rfl, rfl, rfl⟩ rfl (by decide) rfl (Nat.le_of_ble_eq_true rfl) rfl (fun r172 S172 => ?_)
    exact sm_retL (pc := 175) dX7_doLine_175
  refine sm_sub [] rfl ?_
  exact sJ_X7_doLine_196 Z  S
set_option maxRecDepth 20000 in
set_option maxHeartbeats 4000000 in
theorem m_X7_doLine (Z : ZT) (l : Launch) (c : Nat) (S : St) {r : Int64} {S' : St} (h : F_X7_doLine c S = some (r, S')) : MetX Z l yX7_doLine cX7_doLine 2 (some .long) rm_X7_doLine [.ref c] S (eL r) S' := Sim.met (by decide +kernel) rfl (Nat.le_of_ble_eq_true rfl) (s_X7_doLine Z c S) l h
set_option maxRecDepth 20000 in
set_option maxHeartbeats 4000000 in
theorem sJ_X7_script_84 (Z : ZT) (rec50 : (Nat → Int32 → Int32 → St → Option (Int32 × St))) (h50 : ∀ (x0 : Nat) (x2 : Int32) (x3 : Int32)  (S : St), Sim eI Z rm_X7_script RX7 cX7_script 4 (some .int) 50 [(0, .ref x0), (2, .int x2), (3, .int x3)] [] S (rec50 x0 x2 x3 S)) (x0 : Nat) (x2 : Int32) (t0 : Int32) (S : St) : Sim eI Z rm_X7_script RX7 cX7_script 4 (some .int) 84 [(0, .ref x0), (2, .int x2)] [.int t0] S (J_X7_script_84 rec50 x0 x2 t0 S) := by
  unfold J_X7_script_84
  refine sm_istore_n (pc := 84) (lv' := [(3, .int t0), (0, .ref x0), (2, .int x2)]) dX7_script_84 rfl (by decide) rfl ?_
  refine sm_iload_n (pc := 85) dX7_script_85 rfl 0 rfl ?_
  refine sm_if_ne 50 (pc := 86) dX7_script_86 rfl ?_ ?_
  · refine sm_sub [1, 2, 0] rfl ?_
    exact h50 x0 x2 t0 S
  refine sm_iinc (pc := 89) (x2 + 1) (lv' := [(2, .int (x2 + 1)), (3, .int t0), (0, .ref x0)]) dX7_script_89 2 rfl rfl (by decide) rfl ?_
  refine sm_aload_n (pc := 92) dX7_script_92 rfl 2 rfl ?_
  refine sm_getR (pc := 93) dX7_script_93 fr_RX7_43 (by decide) rfl (fun v93 => ?_)
  refine sm_dup (pc := 96) dX7_script_96 rfl ?_
  refine sm_getI (pc := 97) dX7_script_97 fr_RX7_290 (by decide) rfl (fun v97 => ?_)
  refine sm_iconst (pc := 100) (1 : Int32) dX7_script_100 (by decide) ?_
  refine sm_iadd (pc := 101) dX7_script_101 ?_
  refine sm_putI (pc := 102) dX7_script_102 fw_RX7_290 (by decide) rfl (fun S102 => ?_)
  refine sm_goto 50 (pc := 105) dX7_script_105 rfl ?_
  refine sm_sub [2, 0, 1] rfl ?_
  exact h50 x0 (x2 + 1) t0 S102
set_option maxRecDepth 20000 in
set_option maxHeartbeats 4000000 in
theorem sJ_X7_script_108 (Z : ZT)  (x0 : Nat) (x2 : Int32) (x3 : Int32)  (S : St) : Sim eI Z rm_X7_script RX7 cX7_script 4 (some .int) 108 [(0, .ref x0), (2, .int x2), (3, .int x3)] [] S (J_X7_script_108  x0 x2 x3 S) := by
  unfold J_X7_script_108
  refine sm_aload_n (pc := 108) dX7_script_108 rfl 0 rfl ?_
  refine sm_getR (pc := 109) dX7_script_109 fr_RX7_43 (by decide) rfl (fun v109 => ?_)
  refine sm_iconst (pc := 112) (0 : Int32) dX7_script_112 (by decide) ?_
  refine sm_putI (pc := 113) dX7_script_113 fw_RX7_278 (by decide) rfl (fun S113 => ?_)
  refine sm_iload_n (pc := 116) dX7_script_116 rfl 2 rfl ?_
  refine sm_if_eq 137 (pc := 117) dX7_script_117 rfl ?_ ?_
  · refine sm_iload_n (pc := 137) dX7_script_137 rfl 1 rfl ?_
    exact sm_retI (pc := 138) dX7_script_138
  refine sm_aload_n (pc := 120) dX7_script_120 rfl 0 rfl ?_
  refine sm_getR (pc := 121) dX7_script_121 fr_RX7_10 (by decide) rfl (fun v121 => ?_)
  refine sm_aload_n (pc := 124) dX7_script_124 rfl 0 rfl ?_
  refine sm_getR (pc := 125) dX7_script_125 fr_RX7_16 (by decide) rfl (fun v125 => ?_)
  refine sm_callVV (pc := 128) [.ref v125] (fun lq rq Sq hq => m_X1_copyFrom Z lq v121 v125 S113 hq) dX7_script_128 mi_X1_copyFrom ml_RX7_287 ⟨Nat.le_of_ble_eq_true rfl, Nat.le_of_ble_eq_true rfl, rfl, rfl⟩ rfl (by decide) rfl (Nat.le_of_ble_eq_true rfl) rfl (fun _ S128 => ?_)
  refine sm_sipush (pc := 131) (-2000 : Int32) dX7_script_131 (by decide) ?_
  refine sm_iload_n (pc := 134) dX7_script_134 rfl 1 rfl ?_
  refine sm_isub (pc := 135) dX7_script_135 ?_
  exact sm_retI (pc := 136) dX7_script_136
set_option maxRecDepth 20000 in
set_option maxHeartbeats 4000000 in
theorem sB_X7_script_50 (Z : ZT) (rec50 : (Nat → Int32 → Int32 → St → Option (Int32 × St))) (h50 : ∀ (x0 : Nat) (x2 : Int32) (x3 : Int32)  (S : St), Sim eI Z rm_X7_script RX7 cX7_script 4 (some .int) 50 [(0, .ref x0), (2, .int x2), (3, .int x3)] [] S (rec50 x0 x2 x3 S)) (x0 : Nat) (x2 : Int32) (x3 : Int32)  (S : St) : Sim eI Z rm_X7_script RX7 cX7_script 4 (some .int) 50 [(0, .ref x0), (2, .int x2), (3, .int x3)] [] S (B_X7_script_50 rec50 x0 x2 x3 S) := by
  unfold B_X7_script_50
  refine sm_iload_n (pc := 50) dX7_script_50 rfl 1 rfl ?_
  refine sm_bipush (pc := 51) (120 : Int32) dX7_script_51 (by decide) ?_
  refine sm_icmp_ge 108 (pc := 53) dX7_script_53 rfl ?_ ?_
  · refine sm_sub [0, 1, 2] rfl ?_
    exact sJ_X7_script_108 Z  x0 x2 x3 S
  refine sm_iload_n (pc := 56) dX7_script_56 rfl 2 rfl ?_
  refine sm_if_ne 108 (pc := 57) dX7_script_57 rfl ?_ ?_
  · refine sm_sub [0, 1, 2] rfl ?_
    exact sJ_X7_script_108 Z  x0 x2 x3 S
  refine sm_aload_n (pc := 60) dX7_script_60 rfl 0 rfl ?_
  refine sm_getR (pc := 61) dX7_script_61 fr_RX7_43 (by decide) rfl (fun v61 => ?_)
  refine sm_callVI (pc := 64) [] (fun lq rq Sq hq => m_X6_readLine Z lq v61 S hq) dX7_script_64 mi_X6_readLine ml_RX7_293 ⟨Nat.le_of_ble_eq_true rfl, Nat.le_of_ble_eq_true rfl, rfl, rfl⟩ rfl (by decide) rfl (Nat.le_of_ble_eq_true rfl) rfl (fun r64 S64 => ?_)
  refine sm_if_eq 108 (pc := 67) dX7_script_67 rfl ?_ ?_
  · refine sm_sub [0, 1, 2] rfl ?_
    exact sJ_X7_script_108 Z  x0 x2 x3 S64
  refine sm_aload_n (pc := 70) dX7_script_70 rfl 0 rfl ?_
  refine sm_callVL (pc := 71) [] (fun lq rq Sq hq => m_X7_doLine Z lq x0 S64 hq) dX7_script_71 mi_X7_doLine ml_RX7_296 ⟨Nat.le_of_ble_eq_true rfl, Nat.le_of_ble_eq_true rfl, rfl, rfl⟩ rfl (by decide) rfl (Nat.le_of_ble_eq_true rfl) rfl (fun r71 S71 => ?_)
  refine sm_lconst (pc := 74) (0 : Int64) dX7_script_74 (by decide) ?_
  refine sm_lcmp_ge 83 (pc := 75) dX7_script_75 dX7_script_76 rfl ?_ ?_
  · refine sm_iconst (pc := 83) (0 : Int32) dX7_script_83 (by decide) ?_
    refine sm_sub [0, 1] rfl ?_
    exact sJ_X7_script_84 Z rec50 h50 x0 x2 (0 : Int32) S71
  refine sm_iconst (pc := 79) (1 : Int32) dX7_script_79 (by decide) ?_
  refine sm_goto 84 (pc := 80) dX7_script_80 rfl ?_
  refine sm_sub [0, 1] rfl ?_
  exact sJ_X7_script_84 Z rec50 h50 x0 x2 (1 : Int32) S71
set_option maxRecDepth 20000 in
set_option maxHeartbeats 4000000 in
theorem sL_X7_script_50 (Z : ZT)  (n : Nat) : ∀ (x0 : Nat) (x2 : Int32) (x3 : Int32)  (S : St), Sim eI Z rm_X7_script RX7 cX7_script 4 (some .int) 50 [(0, .ref x0), (2, .int x2), (3, .int x3)] [] S (L_X7_script_50  n x0 x2 x3 S) := by
  induction n with
  | zero => intros; exact sm_none
  | succ n ih => intro x0 x2 x3 S; exact sB_X7_script_50 Z  (L_X7_script_50  n) ih x0 x2 x3 S
set_option maxRecDepth 20000 in
set_option maxHeartbeats 4000000 in
theorem s_X7_script (Z : ZT) (c : Nat) (S : St) : Sim eI Z rm_X7_script RX7 cX7_script 4 (some .int) 0 [(0, .ref c)] [] S (F_X7_script c S) := by
  unfold F_X7_script
  refine sm_aload_n (pc := 0) dX7_script_0 rfl 0 rfl ?_
  refine sm_getR (pc := 1) dX7_script_1 fr_RX7_43 (by decide) rfl (fun v1 => ?_)
  refine sm_callVI (pc := 4) [] (fun lq rq Sq hq => m_X6_placeOfFault Z lq v1 S hq) dX7_script_4 mi_X6_placeOfFault ml_RX7_284 ⟨Nat.le_of_ble_eq_true rfl, Nat.le_of_ble_eq_true rfl, rfl, rfl⟩ rfl (by decide) rfl (Nat.le_of_ble_eq_true rfl) rfl (fun r4 S4 => ?_)
  refine sm_istore_n (pc := 7) (lv' := [(1, .int r4), (0, .ref c)]) dX7_script_7 rfl (by decide) rfl ?_
  refine sm_iload_n (pc := 8) dX7_script_8 rfl 0 rfl ?_
  refine sm_iconst (pc := 9) (-1 : Int32) dX7_script_9 (by decide) ?_
  refine sm_icmp_eq 27 (pc := 10) dX7_script_10 rfl ?_ ?_
  · refine sm_aload_n (pc := 27) dX7_script_27 rfl 1 rfl ?_
    refine sm_getR (pc := 28) dX7_script_28 fr_RX7_16 (by decide) rfl (fun v28 => ?_)
    refine sm_aload_n (pc := 31) dX7_script_31 rfl 1 rfl ?_
    refine sm_getR (pc := 32) dX7_script_32 fr_RX7_10 (by decide) rfl (fun v32 => ?_)
    refine sm_callVV (pc := 35) [.ref v32] (fun lq rq Sq hq => m_X1_copyFrom Z lq v28 v32 S4 hq) dX7_script_35 mi_X1_copyFrom ml_RX7_287 ⟨Nat.le_of_ble_eq_true rfl, Nat.le_of_ble_eq_true rfl, rfl, rfl⟩ rfl (by decide) rfl (Nat.le_of_ble_eq_true rfl) rfl (fun _ S35 => ?_)
    refine sm_aload_n (pc := 38) dX7_script_38 rfl 1 rfl ?_
    refine sm_getR (pc := 39) dX7_script_39 fr_RX7_43 (by decide) rfl (fun v39 => ?_)
    refine sm_iconst (pc := 42) (0 : Int32) dX7_script_42 (by decide) ?_
    refine sm_putI (pc := 43) dX7_script_43 fw_RX7_290 (by decide) rfl (fun S43 => ?_)
    refine sm_iconst (pc := 46) (0 : Int32) dX7_script_46 (by decide) ?_
    refine sm_istore_n (pc := 47) (lv' := [(2, .int (0 : Int32)), (1, .int r4), (0, .ref c)]) dX7_script_47 rfl (by decide) rfl ?_
    refine sm_iconst (pc := 48) (0 : Int32) dX7_script_48 (by decide) ?_
    refine sm_istore_n (pc := 49) (lv' := [(3, .int (0 : Int32)), (2, .int (0 : Int32)), (1, .int r4), (0, .ref c)]) dX7_script_49 rfl (by decide) rfl ?_
    refine sm_sub [3, 1, 0] rfl ?_
    exact sL_X7_script_50 Z  6000 c (0 : Int32) (0 : Int32) S43
  refine sm_aload_n (pc := 13) dX7_script_13 rfl 1 rfl ?_
  refine sm_getR (pc := 14) dX7_script_14 fr_RX7_43 (by decide) rfl (fun v14 => ?_)
  refine sm_iconst (pc := 17) (0 : Int32) dX7_script_17 (by decide) ?_
  refine sm_putI (pc := 18) dX7_script_18 fw_RX7_278 (by decide) rfl (fun S18 => ?_)
  refine sm_sipush (pc := 21) (-1000 : Int32) dX7_script_21 (by decide) ?_
  refine sm_iload_n (pc := 24) dX7_script_24 rfl 0 rfl ?_
  refine sm_isub (pc := 25) dX7_script_25 ?_
  exact sm_retI (pc := 26) dX7_script_26
set_option maxRecDepth 20000 in
set_option maxHeartbeats 4000000 in
theorem m_X7_script (Z : ZT) (l : Launch) (c : Nat) (S : St) {r : Int32} {S' : St} (h : F_X7_script c S = some (r, S')) : MetX Z l yX7_script cX7_script 4 (some .int) rm_X7_script [.ref c] S (eI r) S' := Sim.met (by decide +kernel) rfl (Nat.le_of_ble_eq_true rfl) (s_X7_script Z c S) l h
