set_option maxRecDepth 20000 in
set_option maxHeartbeats 4000000 in
theorem sJ_X8_interest_89 (Z : ZT)   (t0 : Int64) (S : St) : Sim eL Z rm_X8_interest RX8 cX8_interest 8 (some .long) 89 [] [.long t0] S (J_X8_interest_89  t0 S) := by
  unfold J_X8_interest_89
  exact sm_retL (pc := 89) dX8_interest_89
set_option maxRecDepth 20000 in
set_option maxHeartbeats 4000000 in
theorem sJ_X8_interest_64 (Z : ZT)  (x1 : Int64) (x3 : Int32) (x4 : Int32) (x5 : Int32) (x6 : Int32) (t0 : Int32) (S : St) : Sim eL Z rm_X8_interest RX8 cX8_interest 8 (some .long) 64 [(1, .long x1), (3, .int x3), (4, .int x4), (5, .int x5), (6, .int x6)] [.int t0] S (J_X8_interest_64  x1 x3 x4 x5 x6 t0 S) := by
  unfold J_X8_interest_64
  refine sm_istore (pc := 64) (lv' := [(7, .int t0), (1, .long x1), (3, .int x3), (4, .int x4), (5, .int x5), (6, .int x6)]) dX8_interest_64 (by decide) rfl ?_
  refine sm_iload (pc := 66) dX8_interest_66 0 rfl ?_
  refine sm_if_eq 86 (pc := 68) dX8_interest_68 rfl ?_ ?_
  · refine sm_ldc2 (pc := 86) (-1 : Int64) dX8_interest_86 kc_RX8_134 ?_
    refine sm_sub [] rfl ?_
    exact sJ_X8_interest_89 Z  (-1 : Int64) S
  refine sm_lload_n (pc := 71) dX8_interest_71 rfl 1 rfl ?_
  refine sm_iload_n (pc := 72) dX8_interest_72 rfl 2 rfl ?_
  refine sm_i2l (pc := 73) dX8_interest_73 ?_
  refine sm_iload (pc := 74) dX8_interest_74 3 rfl ?_
  refine sm_iload (pc := 76) dX8_interest_76 4 rfl ?_
  refine sm_iload (pc := 78) dX8_interest_78 5 rfl ?_
  refine sm_callSL (pc := 80) [.long x1, .long (Int32.toInt64 x3), .int x4, .int x5, .int x6] (fun lq rq Sq hq => m_X8_interestOf Z lq x1 (Int32.toInt64 x3) x4 x5 x6 S hq) dX8_interest_80 mi_X8_interestOf ml_RX8_130 ⟨Nat.le_of_ble_eq_true rfl, Nat.le_of_ble_eq_true rfl, rfl, rfl⟩ rfl (Nat.le_of_ble_eq_true rfl) rfl (fun r80 S80 => ?_)
  refine sm_goto 89 (pc := 83) dX8_interest_83 rfl ?_
  refine sm_sub [] rfl ?_
  exact sJ_X8_interest_89 Z  r80 S80
set_option maxRecDepth 20000 in
set_option maxHeartbeats 4000000 in
theorem sJ_X8_interest_63 (Z : ZT)  (x1 : Int64) (x3 : Int32) (x4 : Int32) (x5 : Int32) (x6 : Int32)  (S : St) : Sim eL Z rm_X8_interest RX8 cX8_interest 8 (some .long) 63 [(1, .long x1), (3, .int x3), (4, .int x4), (5, .int x5), (6, .int x6)] [] S (J_X8_interest_63  x1 x3 x4 x5 x6 S) := by
  unfold J_X8_interest_63
  refine sm_iconst (pc := 63) (0 : Int32) dX8_interest_63 (by decide) ?_
  refine sm_sub [0, 1, 2, 3, 4] rfl ?_
  exact sJ_X8_interest_64 Z  x1 x3 x4 x5 x6 (0 : Int32) S
set_option maxRecDepth 20000 in
set_option maxHeartbeats 4000000 in
theorem s_X8_interest (Z : ZT) (c : Nat) (a1 : Int64) (a2 : Int32) (a3 : Int32) (a4 : Int32) (a5 : Int32) (S : St) : Sim eL Z rm_X8_interest RX8 cX8_interest 8 (some .long) 0 [(0, .ref c), (1, .long a1), (3, .int a2), (4, .int a3), (5, .int a4), (6, .int a5)] [] S (F_X8_interest c a1 a2 a3 a4 a5 S) := by
  unfold F_X8_interest
  refine sm_lload_n (pc := 0) dX8_interest_0 rfl 1 rfl ?_
  refine sm_lconst (pc := 1) (0 : Int64) dX8_interest_1 (by decide) ?_
  refine sm_ldc2 (pc := 2) (100000000 : Int64) dX8_interest_2 kc_RX8_126 ?_
  refine sm_callSI (pc := 5) [.long a1, .long (0 : Int64), .long (100000000 : Int64)] (fun lq rq Sq hq => m_X8_in Z lq a1 (0 : Int64) (100000000 : Int64) S hq) dX8_interest_5 mi_X8_in ml_RX8_85 ⟨Nat.le_of_ble_eq_true rfl, Nat.le_of_ble_eq_true rfl, rfl, rfl⟩ rfl (Nat.le_of_ble_eq_true rfl) rfl (fun r5 S5 => ?_)
  refine sm_if_eq 63 (pc := 8) dX8_interest_8 rfl ?_ ?_
  · refine sm_sub [1, 2, 3, 4, 5] rfl ?_
    exact sJ_X8_interest_63 Z  a1 a2 a3 a4 a5 S5
  refine sm_iload_n (pc := 11) dX8_interest_11 rfl 2 rfl ?_
  refine sm_i2l (pc := 12) dX8_interest_12 ?_
  refine sm_lconst (pc := 13) (0 : Int64) dX8_interest_13 (by decide) ?_
  refine sm_ldc2 (pc := 14) (5000 : Int64) dX8_interest_14 kc_RX8_128 ?_
  refine sm_callSI (pc := 17) [.long (Int32.toInt64 a2), .long (0 : Int64), .long (5000 : Int64)] (fun lq rq Sq hq => m_X8_in Z lq (Int32.toInt64 a2) (0 : Int64) (5000 : Int64) S5 hq) dX8_interest_17 mi_X8_in ml_RX8_85 ⟨Nat.le_of_ble_eq_true rfl, Nat.le_of_ble_eq_true rfl, rfl, rfl⟩ rfl (Nat.le_of_ble_eq_true rfl) rfl (fun r17 S17 => ?_)
  refine sm_if_eq 63 (pc := 20) dX8_interest_20 rfl ?_ ?_
  · refine sm_sub [1, 2, 3, 4, 5] rfl ?_
    exact sJ_X8_interest_63 Z  a1 a2 a3 a4 a5 S17
  refine sm_iload (pc := 23) dX8_interest_23 3 rfl ?_
  refine sm_i2l (pc := 25) dX8_interest_25 ?_
  refine sm_lconst (pc := 26) (0 : Int64) dX8_interest_26 (by decide) ?_
  refine sm_ldc2 (pc := 27) (3 : Int64) dX8_interest_27 kc_RX8_92 ?_
  refine sm_callSI (pc := 30) [.long (Int32.toInt64 a3), .long (0 : Int64), .long (3 : Int64)] (fun lq rq Sq hq => m_X8_in Z lq (Int32.toInt64 a3) (0 : Int64) (3 : Int64) S17 hq) dX8_interest_30 mi_X8_in ml_RX8_85 ⟨Nat.le_of_ble_eq_true rfl, Nat.le_of_ble_eq_true rfl, rfl, rfl⟩ rfl (Nat.le_of_ble_eq_true rfl) rfl (fun r30 S30 => ?_)
  refine sm_if_eq 63 (pc := 33) dX8_interest_33 rfl ?_ ?_
  · refine sm_sub [1, 2, 3, 4, 5] rfl ?_
    exact sJ_X8_interest_63 Z  a1 a2 a3 a4 a5 S30
  refine sm_iload (pc := 36) dX8_interest_36 4 rfl ?_
  refine sm_callSI (pc := 38) [.int a4] (fun lq rq Sq hq => m_X8_isDay Z lq a4 S30 hq) dX8_interest_38 mi_X8_isDay ml_RX8_89 ⟨Nat.le_of_ble_eq_true rfl, Nat.le_of_ble_eq_true rfl, rfl, rfl⟩ rfl (Nat.le_of_ble_eq_true rfl) rfl (fun r38 S38 => ?_)
  refine sm_if_eq 63 (pc := 41) dX8_interest_41 rfl ?_ ?_
  · refine sm_sub [1, 2, 3, 4, 5] rfl ?_
    exact sJ_X8_interest_63 Z  a1 a2 a3 a4 a5 S38
  refine sm_iload (pc := 44) dX8_interest_44 5 rfl ?_
  refine sm_callSI (pc := 46) [.int a5] (fun lq rq Sq hq => m_X8_isDay Z lq a5 S38 hq) dX8_interest_46 mi_X8_isDay ml_RX8_89 ⟨Nat.le_of_ble_eq_true rfl, Nat.le_of_ble_eq_true rfl, rfl, rfl⟩ rfl (Nat.le_of_ble_eq_true rfl) rfl (fun r46 S46 => ?_)
  refine sm_if_eq 63 (pc := 49) dX8_interest_49 rfl ?_ ?_
  · refine sm_sub [1, 2, 3, 4, 5] rfl ?_
    exact sJ_X8_interest_63 Z  a1 a2 a3 a4 a5 S46
  refine sm_iload (pc := 52) dX8_interest_52 5 rfl ?_
  refine sm_iload (pc := 54) dX8_interest_54 4 rfl ?_
  refine sm_icmp_lt 63 (pc := 56) dX8_interest_56 rfl ?_ ?_
  · refine sm_sub [1, 2, 3, 4, 5] rfl ?_
    exact sJ_X8_interest_63 Z  a1 a2 a3 a4 a5 S46
  refine sm_iconst (pc := 59) (1 : Int32) dX8_interest_59 (by decide) ?_
  refine sm_goto 64 (pc := 60) dX8_interest_60 rfl ?_
  refine sm_sub [1, 2, 3, 4, 5] rfl ?_
  exact sJ_X8_interest_64 Z  a1 a2 a3 a4 a5 (1 : Int32) S46
set_option maxRecDepth 20000 in
set_option maxHeartbeats 4000000 in
theorem m_X8_interest (Z : ZT) (l : Launch) (c : Nat) (a1 : Int64) (a2 : Int32) (a3 : Int32) (a4 : Int32) (a5 : Int32) (S : St) {r : Int64} {S' : St} (h : F_X8_interest c a1 a2 a3 a4 a5 S = some (r, S')) : MetX Z l yX8_interest cX8_interest 8 (some .long) rm_X8_interest [.ref c, .long a1, .int a2, .int a3, .int a4, .int a5] S (eL r) S' := Sim.met (by decide +kernel) rfl (Nat.le_of_ble_eq_true rfl) (s_X8_interest Z c a1 a2 a3 a4 a5 S) l h
set_option maxRecDepth 20000 in
set_option maxHeartbeats 4000000 in
theorem s_X8_isLoan (Z : ZT) (c : Nat) (a1 : Int32) (S : St) : Sim eI Z rm_X8_isLoan RX8 cX8_isLoan 2 (some .boolean) 0 [(0, .ref c), (1, .int a1)] [] S (F_X8_isLoan c a1 S) := by
  unfold F_X8_isLoan
  refine sm_iload_n (pc := 0) dX8_isLoan_0 rfl 1 rfl ?_
  refine sm_i2l (pc := 1) dX8_isLoan_1 ?_
  refine sm_lconst (pc := 2) (0 : Int64) dX8_isLoan_2 (by decide) ?_
  refine sm_aload_n (pc := 3) dX8_isLoan_3 rfl 0 rfl ?_
  refine sm_getR (pc := 4) dX8_isLoan_4 fr_RX8_9 (by decide) rfl (fun v4 => ?_)
  refine sm_sipush (pc := 7) (2520 : Int32) dX8_isLoan_7 (by decide) ?_
  refine sm_aJ (pc := 10) dX8_isLoan_10 (fun v10 => ?_)
  refine sm_lconst (pc := 11) (1 : Int64) dX8_isLoan_11 (by decide) ?_
  refine sm_lsub (pc := 12) dX8_isLoan_12 ?_
  refine sm_callSI (pc := 13) [.long (Int32.toInt64 a1), .long (0 : Int64), .long (v10 - (1 : Int64))] (fun lq rq Sq hq => m_X8_in Z lq (Int32.toInt64 a1) (0 : Int64) (v10 - (1 : Int64)) S hq) dX8_isLoan_13 mi_X8_in ml_RX8_85 ⟨Nat.le_of_ble_eq_true rfl, Nat.le_of_ble_eq_true rfl, rfl, rfl⟩ rfl (Nat.le_of_ble_eq_true rfl) rfl (fun r13 S13 => ?_)
  exact sm_retZ (pc := 16) dX8_isLoan_16
set_option maxRecDepth 20000 in
set_option maxHeartbeats 4000000 in
theorem m_X8_isLoan (Z : ZT) (l : Launch) (c : Nat) (a1 : Int32) (S : St) {r : Int32} {S' : St} (h : F_X8_isLoan c a1 S = some (r, S')) : MetX Z l yX8_isLoan cX8_isLoan 2 (some .boolean) rm_X8_isLoan [.ref c, .int a1] S (eI r) S' := Sim.met (by decide +kernel) rfl (Nat.le_of_ble_eq_true rfl) (s_X8_isLoan Z c a1 S) l h
set_option maxRecDepth 20000 in
set_option maxHeartbeats 4000000 in
theorem s_X8_at (Z : ZT) (c : Nat) (a1 : Int32) (a2 : Int32) (S : St) : Sim eL Z rm_X8_at RX8 cX8_at 3 (some .long) 0 [(0, .ref c), (1, .int a1), (2, .int a2)] [] S (F_X8_at c a1 a2 S) := by
  unfold F_X8_at
  refine sm_aload_n (pc := 0) dX8_at_0 rfl 0 rfl ?_
  refine sm_getR (pc := 1) dX8_at_1 fr_RX8_9 (by decide) rfl (fun v1 => ?_)
  refine sm_iload_n (pc := 4) dX8_at_4 rfl 1 rfl ?_
  refine sm_sipush (pc := 5) (315 : Int32) dX8_at_5 (by decide) ?_
  refine sm_imul (pc := 8) dX8_at_8 ?_
  refine sm_iload_n (pc := 9) dX8_at_9 rfl 2 rfl ?_
  refine sm_iadd (pc := 10) dX8_at_10 ?_
  refine sm_aJ (pc := 11) dX8_at_11 (fun v11 => ?_)
  exact sm_retL (pc := 12) dX8_at_12
set_option maxRecDepth 20000 in
set_option maxHeartbeats 4000000 in
theorem m_X8_at (Z : ZT) (l : Launch) (c : Nat) (a1 : Int32) (a2 : Int32) (S : St) {r : Int64} {S' : St} (h : F_X8_at c a1 a2 S = some (r, S')) : MetX Z l yX8_at cX8_at 3 (some .long) rm_X8_at [.ref c, .int a1, .int a2] S (eL r) S' := Sim.met (by decide +kernel) rfl (Nat.le_of_ble_eq_true rfl) (s_X8_at Z c a1 a2 S) l h
set_option maxRecDepth 20000 in
set_option maxHeartbeats 4000000 in
theorem s_X8_sets (Z : ZT) (c : Nat) (a1 : Int32) (a2 : Int32) (a3 : Int64) (S : St) : Sim eV Z rm_X8_sets RX8 cX8_sets 5 none 0 [(0, .ref c), (1, .int a1), (2, .int a2), (3, .long a3)] [] S (F_X8_sets c a1 a2 a3 S) := by
  unfold F_X8_sets
  refine sm_aload_n (pc := 0) dX8_sets_0 rfl 0 rfl ?_
  refine sm_getR (pc := 1) dX8_sets_1 fr_RX8_9 (by decide) rfl (fun v1 => ?_)
  refine sm_iload_n (pc := 4) dX8_sets_4 rfl 1 rfl ?_
  refine sm_sipush (pc := 5) (315 : Int32) dX8_sets_5 (by decide) ?_
  refine sm_imul (pc := 8) dX8_sets_8 ?_
  refine sm_iload_n (pc := 9) dX8_sets_9 rfl 2 rfl ?_
  refine sm_iadd (pc := 10) dX8_sets_10 ?_
  refine sm_lload_n (pc := 11) dX8_sets_11 rfl 3 rfl ?_
  refine sm_sJ (pc := 12) dX8_sets_12 (fun S12 => ?_)
  exact sm_retV (pc := 13) dX8_sets_13
set_option maxRecDepth 20000 in
set_option maxHeartbeats 4000000 in
theorem m_X8_sets (Z : ZT) (l : Launch) (c : Nat) (a1 : Int32) (a2 : Int32) (a3 : Int64) (S : St) {r : Unit} {S' : St} (h : F_X8_sets c a1 a2 a3 S = some (r, S')) : MetX Z l yX8_sets cX8_sets 5 none rm_X8_sets [.ref c, .int a1, .int a2, .long a3] S (eV r) S' := Sim.met (by decide +kernel) rfl (Nat.le_of_ble_eq_true rfl) (s_X8_sets Z c a1 a2 a3 S) l h
set_option maxRecDepth 20000 in
set_option maxHeartbeats 4000000 in
theorem sJ_X8_endOf_27 (Z : ZT)   (t0 : Int32) (S : St) : Sim eI Z rm_X8_endOf RX8 cX8_endOf 3 (some .int) 27 [] [.int t0] S (J_X8_endOf_27  t0 S) := by
  unfold J_X8_endOf_27
  exact sm_retI (pc := 27) dX8_endOf_27
set_option maxRecDepth 20000 in
set_option maxHeartbeats 4000000 in
theorem s_X8_endOf (Z : ZT) (c : Nat) (a1 : Int32) (a2 : Int32) (S : St) : Sim eI Z rm_X8_endOf RX8 cX8_endOf 3 (some .int) 0 [(0, .ref c), (1, .int a1), (2, .int a2)] [] S (F_X8_endOf c a1 a2 S) := by
  unfold F_X8_endOf
  refine sm_iload_n (pc := 0) dX8_endOf_0 rfl 2 rfl ?_
  refine sm_if_ne 15 (pc := 1) dX8_endOf_1 rfl ?_ ?_
  · refine sm_aload_n (pc := 15) dX8_endOf_15 rfl 0 rfl ?_
    refine sm_iload_n (pc := 16) dX8_endOf_16 rfl 1 rfl ?_
    refine sm_bipush (pc := 17) (6 : Int32) dX8_endOf_17 (by decide) ?_
    refine sm_callVL (pc := 19) [.int a1, .int (6 : Int32)] (fun lq rq Sq hq => m_X8_at Z lq c a1 (6 : Int32) S hq) dX8_endOf_19 mi_X8_at ml_RX8_136 ⟨Nat.le_of_ble_eq_true rfl, Nat.le_of_ble_eq_true rfl, rfl, rfl⟩ rfl (by decide) rfl (Nat.le_of_ble_eq_true rfl) rfl (fun r19 S19 => ?_)
    refine sm_l2i (pc := 22) dX8_endOf_22 ?_
    refine sm_iload_n (pc := 23) dX8_endOf_23 rfl 2 rfl ?_
    refine sm_callSI (pc := 24) [.int (Int64.toInt32 r19), .int a2] (fun lq rq Sq hq => m_X8_monthsBehind Z lq (Int64.toInt32 r19) a2 S19 hq) dX8_endOf_24 mi_X8_monthsBehind ml_RX8_140 ⟨Nat.le_of_ble_eq_true rfl, Nat.le_of_ble_eq_true rfl, rfl, rfl⟩ rfl (Nat.le_of_ble_eq_true rfl) rfl (fun r24 S24 => ?_)
    refine sm_sub [] rfl ?_
    exact sJ_X8_endOf_27 Z  r24 S24
  refine sm_aload_n (pc := 4) dX8_endOf_4 rfl 0 rfl ?_
  refine sm_iload_n (pc := 5) dX8_endOf_5 rfl 1 rfl ?_
  refine sm_bipush (pc := 6) (6 : Int32) dX8_endOf_6 (by decide) ?_
  refine sm_callVL (pc := 8) [.int a1, .int (6 : Int32)] (fun lq rq Sq hq => m_X8_at Z lq c a1 (6 : Int32) S hq) dX8_endOf_8 mi_X8_at ml_RX8_136 ⟨Nat.le_of_ble_eq_true rfl, Nat.le_of_ble_eq_true rfl, rfl, rfl⟩ rfl (by decide) rfl (Nat.le_of_ble_eq_true rfl) rfl (fun r8 S8 => ?_)
  refine sm_l2i (pc := 11) dX8_endOf_11 ?_
  refine sm_goto 27 (pc := 12) dX8_endOf_12 rfl ?_
  refine sm_sub [] rfl ?_
  exact sJ_X8_endOf_27 Z  (Int64.toInt32 r8) S8
set_option maxRecDepth 20000 in
set_option maxHeartbeats 4000000 in
theorem m_X8_endOf (Z : ZT) (l : Launch) (c : Nat) (a1 : Int32) (a2 : Int32) (S : St) {r : Int32} {S' : St} (h : F_X8_endOf c a1 a2 S = some (r, S')) : MetX Z l yX8_endOf cX8_endOf 3 (some .int) rm_X8_endOf [.ref c, .int a1, .int a2] S (eI r) S' := Sim.met (by decide +kernel) rfl (Nat.le_of_ble_eq_true rfl) (s_X8_endOf Z c a1 a2 S) l h
set_option maxRecDepth 20000 in
set_option maxHeartbeats 4000000 in
theorem s_X8_periodInterest (Z : ZT) (c : Nat) (a1 : Int32) (a2 : Int64) (a3 : Int32) (S : St) : Sim eL Z rm_X8_periodInterest RX8 cX8_periodInterest 5 (some .long) 0 [(0, .ref c), (1, .int a1), (2, .long a2), (4, .int a3)] [] S (F_X8_periodInterest c a1 a2 a3 S) := by
  unfold F_X8_periodInterest
  refine sm_lload_n (pc := 0) dX8_periodInterest_0 rfl 2 rfl ?_
  refine sm_aload_n (pc := 1) dX8_periodInterest_1 rfl 0 rfl ?_
  refine sm_iload_n (pc := 2) dX8_periodInterest_2 rfl 1 rfl ?_
  refine sm_iconst (pc := 3) (1 : Int32) dX8_periodInterest_3 (by decide) ?_
  refine sm_callVL (pc := 4) [.int a1, .int (1 : Int32)] (fun lq rq Sq hq => m_X8_at Z lq c a1 (1 : Int32) S hq) dX8_periodInterest_4 mi_X8_at ml_RX8_136 ⟨Nat.le_of_ble_eq_true rfl, Nat.le_of_ble_eq_true rfl, rfl, rfl⟩ rfl (by decide) rfl (Nat.le_of_ble_eq_true rfl) rfl (fun r4 S4 => ?_)
  refine sm_aload_n (pc := 7) dX8_periodInterest_7 rfl 0 rfl ?_
  refine sm_iload_n (pc := 8) dX8_periodInterest_8 rfl 1 rfl ?_
  refine sm_iconst (pc := 9) (2 : Int32) dX8_periodInterest_9 (by decide) ?_
  refine sm_callVL (pc := 10) [.int a1, .int (2 : Int32)] (fun lq rq Sq hq => m_X8_at Z lq c a1 (2 : Int32) S4 hq) dX8_periodInterest_10 mi_X8_at ml_RX8_136 ⟨Nat.le_of_ble_eq_true rfl, Nat.le_of_ble_eq_true rfl, rfl, rfl⟩ rfl (by decide) rfl (Nat.le_of_ble_eq_true rfl) rfl (fun r10 S10 => ?_)
  refine sm_l2i (pc := 13) dX8_periodInterest_13 ?_
  refine sm_aload_n (pc := 14) dX8_periodInterest_14 rfl 0 rfl ?_
  refine sm_iload_n (pc := 15) dX8_periodInterest_15 rfl 1 rfl ?_
  refine sm_iload (pc := 16) dX8_periodInterest_16 3 rfl ?_
  refine sm_callVI (pc := 18) [.int a1, .int a3] (fun lq rq Sq hq => m_X8_endOf Z lq c a1 a3 S10 hq) dX8_periodInterest_18 mi_X8_endOf ml_RX8_143 ⟨Nat.le_of_ble_eq_true rfl, Nat.le_of_ble_eq_true rfl, rfl, rfl⟩ rfl (by decide) rfl (Nat.le_of_ble_eq_true rfl) rfl (fun r18 S18 => ?_)
  refine sm_aload_n (pc := 21) dX8_periodInterest_21 rfl 0 rfl ?_
  refine sm_iload_n (pc := 22) dX8_periodInterest_22 rfl 1 rfl ?_
  refine sm_iload (pc := 23) dX8_periodInterest_23 3 rfl ?_
  refine sm_iconst (pc := 25) (1 : Int32) dX8_periodInterest_25 (by decide) ?_
  refine sm_iadd (pc := 26) dX8_periodInterest_26 ?_
  refine sm_callVI (pc := 27) [.int a1, .int (a3 + (1 : Int32))] (fun lq rq Sq hq => m_X8_endOf Z lq c a1 (a3 + (1 : Int32)) S18 hq) dX8_periodInterest_27 mi_X8_endOf ml_RX8_143 ⟨Nat.le_of_ble_eq_true rfl, Nat.le_of_ble_eq_true rfl, rfl, rfl⟩ rfl (by decide) rfl (Nat.le_of_ble_eq_true rfl) rfl (fun r27 S27 => ?_)
  refine sm_callSL (pc := 30) [.long a2, .long r4, .int (Int64.toInt32 r10), .int r18, .int r27] (fun lq rq Sq hq => m_X8_interestOf Z lq a2 r4 (Int64.toInt32 r10) r18 r27 S27 hq) dX8_periodInterest_30 mi_X8_interestOf ml_RX8_130 ⟨Nat.le_of_ble_eq_true rfl, Nat.le_of_ble_eq_true rfl, rfl, rfl⟩ rfl (Nat.le_of_ble_eq_true rfl) rfl (fun r30 S30 => ?_)
  exact sm_retL (pc := 33) dX8_periodInterest_33
set_option maxRecDepth 20000 in
set_option maxHeartbeats 4000000 in
theorem m_X8_periodInterest (Z : ZT) (l : Launch) (c : Nat) (a1 : Int32) (a2 : Int64) (a3 : Int32) (S : St) {r : Int64} {S' : St} (h : F_X8_periodInterest c a1 a2 a3 S = some (r, S')) : MetX Z l yX8_periodInterest cX8_periodInterest 5 (some .long) rm_X8_periodInterest [.ref c, .int a1, .long a2, .int a3] S (eL r) S' := Sim.met (by decide +kernel) rfl (Nat.le_of_ble_eq_true rfl) (s_X8_periodInterest Z c a1 a2 a3 S) l h
set_option maxRecDepth 20000 in
set_option maxHeartbeats 4000000 in
theorem sJ_X8_cut_23 (Z : ZT)   (t0 : Int64) (S : St) : Sim eL Z rm_X8_cut RX8 cX8_cut 6 (some .long) 23 [] [.long t0] S (J_X8_cut_23  t0 S) := by
  unfold J_X8_cut_23
  exact sm_retL (pc := 23) dX8_cut_23
set_option maxRecDepth 20000 in
set_option maxHeartbeats 4000000 in
theorem s_X8_cut (Z : ZT) (a1 : Int64) (a2 : Int64) (a3 : Int64) (S : St) : Sim eL Z rm_X8_cut RX8 cX8_cut 6 (some .long) 0 [(0, .long a1), (2, .long a2), (4, .long a3)] [] S (F_X8_cut a1 a2 a3 S) := by
  unfold F_X8_cut
  refine sm_lload_n (pc := 0) dX8_cut_0 rfl 0 rfl ?_
  refine sm_lload_n (pc := 1) dX8_cut_1 rfl 1 rfl ?_
  refine sm_lcmp_ge 10 (pc := 2) dX8_cut_2 dX8_cut_3 rfl ?_ ?_
  · refine sm_lload_n (pc := 10) dX8_cut_10 rfl 0 rfl ?_
    refine sm_lload (pc := 11) dX8_cut_11 2 rfl ?_
    refine sm_lcmp_le 22 (pc := 13) dX8_cut_13 dX8_cut_14 rfl ?_ ?_
    · refine sm_lload_n (pc := 22) dX8_cut_22 rfl 0 rfl ?_
      refine sm_sub [] rfl ?_
      exact sJ_X8_cut_23 Z  a1 S
    refine sm_lload (pc := 17) dX8_cut_17 2 rfl ?_
    refine sm_goto 23 (pc := 19) dX8_cut_19 rfl ?_
    refine sm_sub [] rfl ?_
    exact sJ_X8_cut_23 Z  a3 S
  refine sm_lload_n (pc := 6) dX8_cut_6 rfl 1 rfl ?_
  refine sm_goto 23 (pc := 7) dX8_cut_7 rfl ?_
  refine sm_sub [] rfl ?_
  exact sJ_X8_cut_23 Z  a2 S
set_option maxRecDepth 20000 in
set_option maxHeartbeats 4000000 in
theorem m_X8_cut (Z : ZT) (l : Launch) (a1 : Int64) (a2 : Int64) (a3 : Int64) (S : St) {r : Int64} {S' : St} (h : F_X8_cut a1 a2 a3 S = some (r, S')) : MetX Z l yX8_cut cX8_cut 6 (some .long) rm_X8_cut [.long a1, .long a2, .long a3] S (eL r) S' := Sim.met (by decide +kernel) rfl (Nat.le_of_ble_eq_true rfl) (s_X8_cut Z a1 a2 a3 S) l h
set_option maxRecDepth 20000 in
set_option maxHeartbeats 4000000 in
theorem sJ_X8_repays_72 (Z : ZT)   (t0 : Int32) (S : St) : Sim eI Z rm_X8_repays RX8 cX8_repays 7 (some .boolean) 72 [] [.int t0] S (J_X8_repays_72  t0 S) := by
  unfold J_X8_repays_72
  exact sm_retZ (pc := 72) dX8_repays_72
set_option maxRecDepth 20000 in
set_option maxHeartbeats 4000000 in
theorem sB_X8_repays_19 (Z : ZT) (rec19 : (Nat → Int32 → Int64 → Int64 → Int32 → St → Option (Int32 × St))) (h19 : ∀ (x0 : Nat) (x1 : Int32) (x2 : Int64) (x4 : Int64) (x6 : Int32)  (S : St), Sim eI Z rm_X8_repays RX8 cX8_repays 7 (some .boolean) 19 [(0, .ref x0), (1, .int x1), (2, .long x2), (4, .long x4), (6, .int x6)] [] S (rec19 x0 x1 x2 x4 x6 S)) (x0 : Nat) (x1 : Int32) (x2 : Int64) (x4 : Int64) (x6 : Int32)  (S : St) : Sim eI Z rm_X8_repays RX8 cX8_repays 7 (some .boolean) 19 [(0, .ref x0), (1, .int x1), (2, .long x2), (4, .long x4), (6, .int x6)] [] S (B_X8_repays_19 rec19 x0 x1 x2 x4 x6 S) := by
  unfold B_X8_repays_19
  refine sm_iload (pc := 19) dX8_repays_19 4 rfl ?_
  refine sm_i2l (pc := 21) dX8_repays_21 ?_
  refine sm_aload_n (pc := 22) dX8_repays_22 rfl 0 rfl ?_
  refine sm_iload_n (pc := 23) dX8_repays_23 rfl 1 rfl ?_
  refine sm_iconst (pc := 24) (4 : Int32) dX8_repays_24 (by decide) ?_
  refine sm_callVL (pc := 25) [.int x1, .int (4 : Int32)] (fun lq rq Sq hq => m_X8_at Z lq x0 x1 (4 : Int32) S hq) dX8_repays_25 mi_X8_at ml_RX8_136 ⟨Nat.le_of_ble_eq_true rfl, Nat.le_of_ble_eq_true rfl, rfl, rfl⟩ rfl (by decide) rfl (Nat.le_of_ble_eq_true rfl) rfl (fun r25 S25 => ?_)
  refine sm_lcmp_ge 60 (pc := 28) dX8_repays_28 dX8_repays_29 rfl ?_ ?_
  · refine sm_lload (pc := 60) dX8_repays_60 3 rfl ?_
    refine sm_lconst (pc := 62) (0 : Int64) dX8_repays_62 (by decide) ?_
    refine sm_lcmp_ne 71 (pc := 63) dX8_repays_63 dX8_repays_64 rfl ?_ ?_
    · refine sm_iconst (pc := 71) (0 : Int32) dX8_repays_71 (by decide) ?_
      refine sm_sub [] rfl ?_
      exact sJ_X8_repays_72 Z  (0 : Int32) S25
    refine sm_iconst (pc := 67) (1 : Int32) dX8_repays_67 (by decide) ?_
    refine sm_goto 72 (pc := 68) dX8_repays_68 rfl ?_
    refine sm_sub [] rfl ?_
    exact sJ_X8_repays_72 Z  (1 : Int32) S25
  refine sm_lload (pc := 32) dX8_repays_32 3 rfl ?_
  refine sm_lload_n (pc := 34) dX8_repays_34 rfl 2 rfl ?_
  refine sm_aload_n (pc := 35) dX8_repays_35 rfl 0 rfl ?_
  refine sm_iload_n (pc := 36) dX8_repays_36 rfl 1 rfl ?_
  refine sm_lload (pc := 37) dX8_repays_37 3 rfl ?_
  refine sm_iload (pc := 39) dX8_repays_39 4 rfl ?_
  refine sm_callVL (pc := 41) [.int x1, .long x4, .int x6] (fun lq rq Sq hq => m_X8_periodInterest Z lq x0 x1 x4 x6 S25 hq) dX8_repays_41 mi_X8_periodInterest ml_RX8_146 ⟨Nat.le_of_ble_eq_true rfl, Nat.le_of_ble_eq_true rfl, rfl, rfl⟩ rfl (by decide) rfl (Nat.le_of_ble_eq_true rfl) rfl (fun r41 S41 => ?_)
  refine sm_lsub (pc := 44) dX8_repays_44 ?_
  refine sm_lconst (pc := 45) (0 : Int64) dX8_repays_45 (by decide) ?_
  refine sm_lload (pc := 46) dX8_repays_46 3 rfl ?_
  refine sm_callSL (pc := 48) [.long (x2 - r41), .long (0 : Int64), .long x4] (fun lq rq Sq hq => m_X8_cut Z lq (x2 - r41) (0 : Int64) x4 S41 hq) dX8_repays_48 mi_X8_cut ml_RX8_150 ⟨Nat.le_of_ble_eq_true rfl, Nat.le_of_ble_eq_true rfl, rfl, rfl⟩ rfl (Nat.le_of_ble_eq_true rfl) rfl (fun r48 S48 => ?_)
  refine sm_lsub (pc := 51) dX8_repays_51 ?_
  refine sm_bdJ (fun v52 => ?_)
  refine sm_lstore (pc := 52) (lv' := [(4, .long v52), (0, .ref x0), (1, .int x1), (2, .long x2), (6, .int x6)]) dX8_repays_52 (by decide) rfl ?_
  refine sm_iinc (pc := 54) (x6 + 1) (lv' := [(6, .int (x6 + 1)), (4, .long v52), (0, .ref x0), (1, .int x1), (2, .long x2)]) dX8_repays_54 4 rfl rfl (by decide) rfl ?_
  refine sm_goto 19 (pc := 57) dX8_repays_57 rfl ?_
  refine sm_sub [2, 3, 4, 1, 0] rfl ?_
  exact h19 x0 x1 x2 v52 (x6 + 1) S48
set_option maxRecDepth 20000 in
set_option maxHeartbeats 4000000 in
theorem sL_X8_repays_19 (Z : ZT)  (n : Nat) : ∀ (x0 : Nat) (x1 : Int32) (x2 : Int64) (x4 : Int64) (x6 : Int32)  (S : St), Sim eI Z rm_X8_repays RX8 cX8_repays 7 (some .boolean) 19 [(0, .ref x0), (1, .int x1), (2, .long x2), (4, .long x4), (6, .int x6)] [] S (L_X8_repays_19  n x0 x1 x2 x4 x6 S) := by
  induction n with
  | zero => intros; exact sm_none
  | succ n ih => intro x0 x1 x2 x4 x6 S; exact sB_X8_repays_19 Z  (L_X8_repays_19  n) ih x0 x1 x2 x4 x6 S
set_option maxRecDepth 20000 in
set_option maxHeartbeats 4000000 in
theorem s_X8_repays (Z : ZT) (c : Nat) (a1 : Int32) (a2 : Int64) (S : St) : Sim eI Z rm_X8_repays RX8 cX8_repays 7 (some .boolean) 0 [(0, .ref c), (1, .int a1), (2, .long a2)] [] S (F_X8_repays c a1 a2 S) := by
  unfold F_X8_repays
  refine sm_aload_n (pc := 0) dX8_repays_0 rfl 0 rfl ?_
  refine sm_iload_n (pc := 1) dX8_repays_1 rfl 1 rfl ?_
  refine sm_bipush (pc := 2) (8 : Int32) dX8_repays_2 (by decide) ?_
  refine sm_callVL (pc := 4) [.int a1, .int (8 : Int32)] (fun lq rq Sq hq => m_X8_at Z lq c a1 (8 : Int32) S hq) dX8_repays_4 mi_X8_at ml_RX8_136 ⟨Nat.le_of_ble_eq_true rfl, Nat.le_of_ble_eq_true rfl, rfl, rfl⟩ rfl (by decide) rfl (Nat.le_of_ble_eq_true rfl) rfl (fun r4 S4 => ?_)
  refine sm_lstore (pc := 7) (lv' := [(4, .long r4), (0, .ref c), (1, .int a1), (2, .long a2)]) dX8_repays_7 (by decide) rfl ?_
  refine sm_aload_n (pc := 9) dX8_repays_9 rfl 1 rfl ?_
  refine sm_iload_n (pc := 10) dX8_repays_10 rfl 2 rfl ?_
  refine sm_bipush (pc := 11) (7 : Int32) dX8_repays_11 (by decide) ?_
  refine sm_callVL (pc := 13) [.int a1, .int (7 : Int32)] (fun lq rq Sq hq => m_X8_at Z lq c a1 (7 : Int32) S4 hq) dX8_repays_13 mi_X8_at ml_RX8_136 ⟨Nat.le_of_ble_eq_true rfl, Nat.le_of_ble_eq_true rfl, rfl, rfl⟩ rfl (by decide) rfl (Nat.le_of_ble_eq_true rfl) rfl (fun r13 S13 => ?_)
  refine sm_l2i (pc := 16) dX8_repays_16 ?_
  refine sm_bdI (fun v17 => ?_)
  refine sm_istore (pc := 17) (lv' := [(6, .int v17), (4, .long r4), (0, .ref c), (1, .int a1), (2, .long a2)]) dX8_repays_17 (by decide) rfl ?_
  refine sm_sub [2, 3, 4, 1, 0] rfl ?_
  exact sL_X8_repays_19 Z  6000 c a1 a2 r4 v17 S13
set_option maxRecDepth 20000 in
set_option maxHeartbeats 4000000 in
theorem m_X8_repays (Z : ZT) (l : Launch) (c : Nat) (a1 : Int32) (a2 : Int64) (S : St) {r : Int32} {S' : St} (h : F_X8_repays c a1 a2 S = some (r, S')) : MetX Z l yX8_repays cX8_repays 7 (some .boolean) rm_X8_repays [.ref c, .int a1, .long a2] S (eI r) S' := Sim.met (by decide +kernel) rfl (Nat.le_of_ble_eq_true rfl) (s_X8_repays Z c a1 a2 S) l h
set_option maxRecDepth 20000 in
set_option maxHeartbeats 4000000 in
theorem sJ_X8_level_23 (Z : ZT)    (S : St) : Sim eV Z rm_X8_level RX8 cX8_level 8 none 23 [] [] S (J_X8_level_23  S) := by
  unfold J_X8_level_23
  exact sm_retV (pc := 23) dX8_level_23
set_option maxRecDepth 20000 in
set_option maxHeartbeats 4000000 in
theorem sJ_X8_level_70 (Z : ZT) (rec31 : (Nat → Int32 → Int64 → Int64 → St → Option (Unit × St))) (h31 : ∀ (x0 : Nat) (x1 : Int32) (x2 : Int64) (x4 : Int64)  (S : St), Sim eV Z rm_X8_level RX8 cX8_level 8 none 31 [(0, .ref x0), (1, .int x1), (2, .long x2), (4, .long x4)] [] S (rec31 x0 x1 x2 x4 S)) (x0 : Nat) (x1 : Int32) (x2 : Int64) (x4 : Int64)  (S : St) : Sim eV Z rm_X8_level RX8 cX8_level 8 none 70 [(0, .ref x0), (1, .int x1), (2, .long x2), (4, .long x4)] [] S (J_X8_level_70 rec31 x0 x1 x2 x4 S) := by
  unfold J_X8_level_70
  refine sm_goto 31 (pc := 70) dX8_level_70 rfl ?_
  refine sm_sub [0, 1, 2, 3] rfl ?_
  exact h31 x0 x1 x2 x4 S
set_option maxRecDepth 20000 in
set_option maxHeartbeats 4000000 in
theorem sB_X8_level_31 (Z : ZT) (rec31 : (Nat → Int32 → Int64 → Int64 → St → Option (Unit × St))) (h31 : ∀ (x0 : Nat) (x1 : Int32) (x2 : Int64) (x4 : Int64)  (S : St), Sim eV Z rm_X8_level RX8 cX8_level 8 none 31 [(0, .ref x0), (1, .int x1), (2, .long x2), (4, .long x4)] [] S (rec31 x0 x1 x2 x4 S)) (x0 : Nat) (x1 : Int32) (x2 : Int64) (x4 : Int64)  (S : St) : Sim eV Z rm_X8_level RX8 cX8_level 8 none 31 [(0, .ref x0), (1, .int x1), (2, .long x2), (4, .long x4)] [] S (B_X8_level_31 rec31 x0 x1 x2 x4 S) := by
  unfold B_X8_level_31
  refine sm_lload_n (pc := 31) dX8_level_31 rfl 2 rfl ?_
  refine sm_lload (pc := 32) dX8_level_32 3 rfl ?_
  refine sm_lcmp_ge 73 (pc := 34) dX8_level_34 dX8_level_35 rfl ?_ ?_
  · refine sm_aload_n (pc := 73) dX8_level_73 rfl 0 rfl ?_
    refine sm_iload_n (pc := 74) dX8_level_74 rfl 1 rfl ?_
    refine sm_bipush (pc := 75) (9 : Int32) dX8_level_75 (by decide) ?_
    refine sm_lload_n (pc := 77) dX8_level_77 rfl 2 rfl ?_
    refine sm_callVV (pc := 78) [.int x1, .int (9 : Int32), .long x2] (fun lq rq Sq hq => m_X8_sets Z lq x0 x1 (9 : Int32) x2 S hq) dX8_level_78 mi_X8_sets ml_RX8_160 ⟨Nat.le_of_ble_eq_true rfl, Nat.le_of_ble_eq_true rfl, rfl, rfl⟩ rfl (by decide) rfl (Nat.le_of_ble_eq_true rfl) rfl (fun _ S78 => ?_)
    exact sm_retV (pc := 81) dX8_level_81
  refine sm_lload_n (pc := 38) dX8_level_38 rfl 2 rfl ?_
  refine sm_lload (pc := 39) dX8_level_39 3 rfl ?_
  refine sm_ladd (pc := 41) dX8_level_41 ?_
  refine sm_ldc2 (pc := 42) (2 : Int64) dX8_level_42 kc_RX8_124 ?_
  refine sm_ldivc (pc := 45) dX8_level_45 (by decide) ?_
  refine sm_bdJ (fun v46 => ?_)
  refine sm_lstore (pc := 46) (lv' := [(6, .long v46), (0, .ref x0), (1, .int x1), (2, .long x2), (4, .long x4)]) dX8_level_46 (by decide) rfl ?_
  refine sm_aload_n (pc := 48) dX8_level_48 rfl 1 rfl ?_
  refine sm_iload_n (pc := 49) dX8_level_49 rfl 2 rfl ?_
  refine sm_lload (pc := 50) dX8_level_50 0 rfl ?_
  refine sm_callVI (pc := 52) [.int x1, .long v46] (fun lq rq Sq hq => m_X8_repays Z lq x0 x1 v46 S hq) dX8_level_52 mi_X8_repays ml_RX8_156 ⟨Nat.le_of_ble_eq_true rfl, Nat.le_of_ble_eq_true rfl, rfl, rfl⟩ rfl (by decide) rfl (Nat.le_of_ble_eq_true rfl) rfl (fun r52 S52 => ?_)
  refine sm_if_eq 65 (pc := 55) dX8_level_55 rfl ?_ ?_
  · refine sm_lload (pc := 65) dX8_level_65 0 rfl ?_
    refine sm_lconst (pc := 67) (1 : Int64) dX8_level_67 (by decide) ?_
    refine sm_ladd (pc := 68) dX8_level_68 ?_
    refine sm_bdJ (fun v69 => ?_)
    refine sm_lstore_n (pc := 69) (lv' := [(2, .long v69), (6, .long v46), (0, .ref x0), (1, .int x1), (4, .long x4)]) dX8_level_69 rfl (by decide) rfl ?_
    refine sm_sub [2, 3, 0, 4] rfl ?_
    exact sJ_X8_level_70 Z rec31 h31 x0 x1 v69 x4 S52
  refine sm_lload (pc := 58) dX8_level_58 0 rfl ?_
  refine sm_lstore (pc := 60) (lv' := [(4, .long v46), (6, .long v46), (0, .ref x0), (1, .int x1), (2, .long x2)]) dX8_level_60 (by decide) rfl ?_
  refine sm_goto 70 (pc := 62) dX8_level_62 rfl ?_
  refine sm_sub [2, 3, 4, 0] rfl ?_
  exact sJ_X8_level_70 Z rec31 h31 x0 x1 x2 v46 S52
set_option maxRecDepth 20000 in
set_option maxHeartbeats 4000000 in
theorem sL_X8_level_31 (Z : ZT)  (n : Nat) : ∀ (x0 : Nat) (x1 : Int32) (x2 : Int64) (x4 : Int64)  (S : St), Sim eV Z rm_X8_level RX8 cX8_level 8 none 31 [(0, .ref x0), (1, .int x1), (2, .long x2), (4, .long x4)] [] S (L_X8_level_31  n x0 x1 x2 x4 S) := by
  induction n with
  | zero => intros; exact sm_none
  | succ n ih => intro x0 x1 x2 x4 S; exact sB_X8_level_31 Z  (L_X8_level_31  n) ih x0 x1 x2 x4 S
set_option maxRecDepth 20000 in
set_option maxHeartbeats 4000000 in
theorem s_X8_level (Z : ZT) (c : Nat) (a1 : Int32) (S : St) : Sim eV Z rm_X8_level RX8 cX8_level 8 none 0 [(0, .ref c), (1, .int a1)] [] S (F_X8_level c a1 S) := by
  unfold F_X8_level
  refine sm_aload_n (pc := 0) dX8_level_0 rfl 0 rfl ?_
  refine sm_iload_n (pc := 1) dX8_level_1 rfl 1 rfl ?_
  refine sm_iconst (pc := 2) (3 : Int32) dX8_level_2 (by decide) ?_
  refine sm_callVL (pc := 3) [.int a1, .int (3 : Int32)] (fun lq rq Sq hq => m_X8_at Z lq c a1 (3 : Int32) S hq) dX8_level_3 mi_X8_at ml_RX8_136 ⟨Nat.le_of_ble_eq_true rfl, Nat.le_of_ble_eq_true rfl, rfl, rfl⟩ rfl (by decide) rfl (Nat.le_of_ble_eq_true rfl) rfl (fun r3 S3 => ?_)
  refine sm_lconst (pc := 6) (0 : Int64) dX8_level_6 (by decide) ?_
  refine sm_lcmp_ne 23 (pc := 7) dX8_level_7 dX8_level_8 rfl ?_ ?_
  · refine sm_sub [] rfl ?_
    exact sJ_X8_level_23 Z  S3
  refine sm_aload_n (pc := 11) dX8_level_11 rfl 0 rfl ?_
  refine sm_iload_n (pc := 12) dX8_level_12 rfl 1 rfl ?_
  refine sm_bipush (pc := 13) (8 : Int32) dX8_level_13 (by decide) ?_
  refine sm_callVL (pc := 15) [.int a1, .int (8 : Int32)] (fun lq rq Sq hq => m_X8_at Z lq c a1 (8 : Int32) S3 hq) dX8_level_15 mi_X8_at ml_RX8_136 ⟨Nat.le_of_ble_eq_true rfl, Nat.le_of_ble_eq_true rfl, rfl, rfl⟩ rfl (by decide) rfl (Nat.le_of_ble_eq_true rfl) rfl (fun r15 S15 => ?_)
  refine sm_lconst (pc := 18) (0 : Int64) dX8_level_18 (by decide) ?_
  refine sm_lcmp_ne 24 (pc := 19) dX8_level_19 dX8_level_20 rfl ?_ ?_
  · refine sm_lconst (pc := 24) (0 : Int64) dX8_level_24 (by decide) ?_
    refine sm_lstore_n (pc := 25) (lv' := [(2, .long (0 : Int64)), (0, .ref c), (1, .int a1)]) dX8_level_25 rfl (by decide) rfl ?_
    refine sm_ldc2 (pc := 26) (200000000 : Int64) dX8_level_26 kc_RX8_154 ?_
    refine sm_lstore (pc := 29) (lv' := [(4, .long (200000000 : Int64)), (2, .long (0 : Int64)), (0, .ref c), (1, .int a1)]) dX8_level_29 (by decide) rfl ?_
    refine sm_sub [2, 3, 1, 0] rfl ?_
    exact sL_X8_level_31 Z  6000 c a1 (0 : Int64) (200000000 : Int64) S15
  refine sm_sub [] rfl ?_
  exact sJ_X8_level_23 Z  S15
set_option maxRecDepth 20000 in
set_option maxHeartbeats 4000000 in
theorem m_X8_level (Z : ZT) (l : Launch) (c : Nat) (a1 : Int32) (S : St) {r : Unit} {S' : St} (h : F_X8_level c a1 S = some (r, S')) : MetX Z l yX8_level cX8_level 8 none rm_X8_level [.ref c, .int a1] S (eV r) S' := Sim.met (by decide +kernel) rfl (Nat.le_of_ble_eq_true rfl) (s_X8_level Z c a1 S) l h
set_option maxRecDepth 20000 in
set_option maxHeartbeats 4000000 in
theorem sB_X8_loan_158 (Z : ZT) (rec158 : (Nat → Int64 → Int32 → Int32 → Int32 → Int32 → Int32 → St → Option (Int32 × St))) (h158 : ∀ (x0 : Nat) (x1 : Int64) (x3 : Int32) (x4 : Int32) (x5 : Int32) (x7 : Int32) (x8 : Int32)  (S : St), Sim eI Z rm_X8_loan RX8 cX8_loan 9 (some .int) 158 [(0, .ref x0), (1, .long x1), (3, .int x3), (4, .int x4), (5, .int x5), (7, .int x7), (8, .int x8)] [] S (rec158 x0 x1 x3 x4 x5 x7 x8 S)) (x0 : Nat) (x1 : Int64) (x3 : Int32) (x4 : Int32) (x5 : Int32) (x7 : Int32) (x8 : Int32)  (S : St) : Sim eI Z rm_X8_loan RX8 cX8_loan 9 (some .int) 158 [(0, .ref x0), (1, .long x1), (3, .int x3), (4, .int x4), (5, .int x5), (7, .int x7), (8, .int x8)] [] S (B_X8_loan_158 rec158 x0 x1 x3 x4 x5 x7 x8 S) := by
  unfold B_X8_loan_158
  refine sm_iload (pc := 158) dX8_loan_158 6 rfl ?_
  refine sm_sipush (pc := 160) (315 : Int32) dX8_loan_160 (by decide) ?_
  refine sm_icmp_ge 181 (pc := 163) dX8_loan_163 rfl ?_ ?_
  · refine sm_aload_n (pc := 181) dX8_loan_181 rfl 0 rfl ?_
    refine sm_iload (pc := 182) dX8_loan_182 5 rfl ?_
    refine sm_iconst (pc := 184) (0 : Int32) dX8_loan_184 (by decide) ?_
    refine sm_lload_n (pc := 185) dX8_loan_185 rfl 1 rfl ?_
    refine sm_callVV (pc := 186) [.int x7, .int (0 : Int32), .long x1] (fun lq rq Sq hq => m_X8_sets Z lq x0 x7 (0 : Int32) x1 S hq) dX8_loan_186 mi_X8_sets ml_RX8_160 ⟨Nat.le_of_ble_eq_true rfl, Nat.le_of_ble_eq_true rfl, rfl, rfl⟩ rfl (by decide) rfl (Nat.le_of_ble_eq_true rfl) rfl (fun _ S186 => ?_)
    refine sm_aload_n (pc := 189) dX8_loan_189 rfl 0 rfl ?_
    refine sm_iload (pc := 190) dX8_loan_190 5 rfl ?_
    refine sm_iconst (pc := 192) (1 : Int32) dX8_loan_192 (by decide) ?_
    refine sm_iload_n (pc := 193) dX8_loan_193 rfl 2 rfl ?_
    refine sm_i2l (pc := 194) dX8_loan_194 ?_
    refine sm_callVV (pc := 195) [.int x7, .int (1 : Int32), .long (Int32.toInt64 x3)] (fun lq rq Sq hq => m_X8_sets Z lq x0 x7 (1 : Int32) (Int32.toInt64 x3) S186 hq) dX8_loan_195 mi_X8_sets ml_RX8_160 ⟨Nat.le_of_ble_eq_true rfl, Nat.le_of_ble_eq_true rfl, rfl, rfl⟩ rfl (by decide) rfl (Nat.le_of_ble_eq_true rfl) rfl (fun _ S195 => ?_)
    refine sm_aload_n (pc := 198) dX8_loan_198 rfl 0 rfl ?_
    refine sm_iload (pc := 199) dX8_loan_199 5 rfl ?_
    refine sm_iconst (pc := 201) (2 : Int32) dX8_loan_201 (by decide) ?_
    refine sm_iload (pc := 202) dX8_loan_202 3 rfl ?_
    refine sm_i2l (pc := 204) dX8_loan_204 ?_
    refine sm_callVV (pc := 205) [.int x7, .int (2 : Int32), .long (Int32.toInt64 x4)] (fun lq rq Sq hq => m_X8_sets Z lq x0 x7 (2 : Int32) (Int32.toInt64 x4) S195 hq) dX8_loan_205 mi_X8_sets ml_RX8_160 ⟨Nat.le_of_ble_eq_true rfl, Nat.le_of_ble_eq_true rfl, rfl, rfl⟩ rfl (by decide) rfl (Nat.le_of_ble_eq_true rfl) rfl (fun _ S205 => ?_)
    refine sm_aload_n (pc := 208) dX8_loan_208 rfl 0 rfl ?_
    refine sm_iload (pc := 209) dX8_loan_209 5 rfl ?_
    refine sm_iconst (pc := 211) (3 : Int32) dX8_loan_211 (by decide) ?_
    refine sm_iload (pc := 212) dX8_loan_212 4 rfl ?_
    refine sm_sipush (pc := 214) (1000 : Int32) dX8_loan_214 (by decide) ?_
    refine sm_idivc (pc := 217) dX8_loan_217 (by decide) ?_
    refine sm_i2l (pc := 218) dX8_loan_218 ?_
    refine sm_callVV (pc := 219) [.int x7, .int (3 : Int32), .long (Int32.toInt64 (x5 / (1000 : Int32)))] (fun lq rq Sq hq => m_X8_sets Z lq x0 x7 (3 : Int32) (Int32.toInt64 (x5 / (1000 : Int32))) S205 hq) dX8_loan_219 mi_X8_sets ml_RX8_160 ⟨Nat.le_of_ble_eq_true rfl, Nat.le_of_ble_eq_true rfl, rfl, rfl⟩ rfl (by decide) rfl (Nat.le_of_ble_eq_true rfl) rfl (fun _ S219 => ?_)
    refine sm_aload_n (pc := 222) dX8_loan_222 rfl 0 rfl ?_
    refine sm_iload (pc := 223) dX8_loan_223 5 rfl ?_
    refine sm_iconst (pc := 225) (5 : Int32) dX8_loan_225 (by decide) ?_
    refine sm_iload (pc := 226) dX8_loan_226 4 rfl ?_
    refine sm_bipush (pc := 228) (100 : Int32) dX8_loan_228 (by decide) ?_
    refine sm_idivc (pc := 230) dX8_loan_230 (by decide) ?_
    refine sm_bipush (pc := 231) (10 : Int32) dX8_loan_231 (by decide) ?_
    refine sm_iremc (pc := 233) dX8_loan_233 (by decide) ?_
    refine sm_i2l (pc := 234) dX8_loan_234 ?_
    refine sm_callVV (pc := 235) [.int x7, .int (5 : Int32), .long (Int32.toInt64 ((x5 / (100 : Int32)) - (x5 / (100 : Int32)) / (10 : Int32) * (10 : Int32)))] (fun lq rq Sq hq => m_X8_sets Z lq x0 x7 (5 : Int32) (Int32.toInt64 ((x5 / (100 : Int32)) - (x5 / (100 : Int32)) / (10 : Int32) * (10 : Int32))) S219 hq) dX8_loan_235 mi_X8_sets ml_RX8_160 ⟨Nat.le_of_ble_eq_true rfl, Nat.le_of_ble_eq_true rfl, rfl, rfl⟩ rfl (by decide) rfl (Nat.le_of_ble_eq_true rfl) rfl (fun _ S235 => ?_)
    refine sm_aload_n (pc := 238) dX8_loan_238 rfl 0 rfl ?_
    refine sm_iload (pc := 239) dX8_loan_239 5 rfl ?_
    refine sm_iconst (pc := 241) (4 : Int32) dX8_loan_241 (by decide) ?_
    refine sm_iload (pc := 242) dX8_loan_242 4 rfl ?_
    refine sm_bipush (pc := 244) (100 : Int32) dX8_loan_244 (by decide) ?_
    refine sm_iremc (pc := 246) dX8_loan_246 (by decide) ?_
    refine sm_i2l (pc := 247) dX8_loan_247 ?_
    refine sm_callVV (pc := 248) [.int x7, .int (4 : Int32), .long (Int32.toInt64 (x5 - x5 / (100 : Int32) * (100 : Int32)))] (fun lq rq Sq hq => m_X8_sets Z lq x0 x7 (4 : Int32) (Int32.toInt64 (x5 - x5 / (100 : Int32) * (100 : Int32))) S235 hq) dX8_loan_248 mi_X8_sets ml_RX8_160 ⟨Nat.le_of_ble_eq_true rfl, Nat.le_of_ble_eq_true rfl, rfl, rfl⟩ rfl (by decide) rfl (Nat.le_of_ble_eq_true rfl) rfl (fun _ S248 => ?_)
    refine sm_aload_n (pc := 251) dX8_loan_251 rfl 0 rfl ?_
    refine sm_iload (pc := 252) dX8_loan_252 5 rfl ?_
    refine sm_bipush (pc := 254) (6 : Int32) dX8_loan_254 (by decide) ?_
    refine sm_aload_n (pc := 256) dX8_loan_256 rfl 0 rfl ?_
    refine sm_getR (pc := 257) dX8_loan_257 fr_RX8_9 (by decide) rfl (fun v257 => ?_)
    refine sm_sipush (pc := 260) (2521 : Int32) dX8_loan_260 (by decide) ?_
    refine sm_aJ (pc := 263) dX8_loan_263 (fun v263 => ?_)
    refine sm_callVV (pc := 264) [.int x7, .int (6 : Int32), .long v263] (fun lq rq Sq hq => m_X8_sets Z lq x0 x7 (6 : Int32) v263 S248 hq) dX8_loan_264 mi_X8_sets ml_RX8_160 ⟨Nat.le_of_ble_eq_true rfl, Nat.le_of_ble_eq_true rfl, rfl, rfl⟩ rfl (by decide) rfl (Nat.le_of_ble_eq_true rfl) rfl (fun _ S264 => ?_)
    refine sm_aload_n (pc := 267) dX8_loan_267 rfl 0 rfl ?_
    refine sm_iload (pc := 268) dX8_loan_268 5 rfl ?_
    refine sm_bipush (pc := 270) (8 : Int32) dX8_loan_270 (by decide) ?_
    refine sm_lload_n (pc := 272) dX8_loan_272 rfl 1 rfl ?_
    refine sm_callVV (pc := 273) [.int x7, .int (8 : Int32), .long x1] (fun lq rq Sq hq => m_X8_sets Z lq x0 x7 (8 : Int32) x1 S264 hq) dX8_loan_273 mi_X8_sets ml_RX8_160 ⟨Nat.le_of_ble_eq_true rfl, Nat.le_of_ble_eq_true rfl, rfl, rfl⟩ rfl (by decide) rfl (Nat.le_of_ble_eq_true rfl) rfl (fun _ S273 => ?_)
    refine sm_aload_n (pc := 276) dX8_loan_276 rfl 0 rfl ?_
    refine sm_iload (pc := 277) dX8_loan_277 5 rfl ?_
    refine sm_callVV (pc := 279) [.int x7] (fun lq rq Sq hq => m_X8_level Z lq x0 x7 S273 hq) dX8_loan_279 mi_X8_level ml_RX8_171 ⟨Nat.le_of_ble_eq_true rfl, Nat.le_of_ble_eq_true rfl, rfl, rfl⟩ rfl (by decide) rfl (Nat.le_of_ble_eq_true rfl) rfl (fun _ S279 => ?_)
    refine sm_iload (pc := 282) dX8_loan_282 5 rfl ?_
    exact sm_retI (pc := 284) dX8_loan_284
  refine sm_aload_n (pc := 166) dX8_loan_166 rfl 0 rfl ?_
  refine sm_iload (pc := 167) dX8_loan_167 5 rfl ?_
  refine sm_iload (pc := 169) dX8_loan_169 6 rfl ?_
  refine sm_lconst (pc := 171) (0 : Int64) dX8_loan_171 (by decide) ?_
  refine sm_callVV (pc := 172) [.int x7, .int x8, .long (0 : Int64)] (fun lq rq Sq hq => m_X8_sets Z lq x0 x7 x8 (0 : Int64) S hq) dX8_loan_172 mi_X8_sets ml_RX8_160 ⟨Nat.le_of_ble_eq_true rfl, Nat.le_of_ble_eq_true rfl, rfl, rfl⟩ rfl (by decide) rfl (Nat.le_of_ble_eq_true rfl) rfl (fun _ S172 => ?_)
  refine sm_iinc (pc := 175) (x8 + 1) (lv' := [(8, .int (x8 + 1)), (0, .ref x0), (1, .long x1), (3, .int x3), (4, .int x4), (5, .int x5), (7, .int x7)]) dX8_loan_175 6 rfl rfl (by decide) rfl ?_
  refine sm_goto 158 (pc := 178) dX8_loan_178 rfl ?_
  refine sm_sub [1, 2, 3, 4, 5, 6, 0] rfl ?_
  exact h158 x0 x1 x3 x4 x5 x7 (x8 + 1) S172
set_option maxRecDepth 20000 in
set_option maxHeartbeats 4000000 in
theorem sL_X8_loan_158 (Z : ZT)  (n : Nat) : ∀ (x0 : Nat) (x1 : Int64) (x3 : Int32) (x4 : Int32) (x5 : Int32) (x7 : Int32) (x8 : Int32)  (S : St), Sim eI Z rm_X8_loan RX8 cX8_loan 9 (some .int) 158 [(0, .ref x0), (1, .long x1), (3, .int x3), (4, .int x4), (5, .int x5), (7, .int x7), (8, .int x8)] [] S (L_X8_loan_158  n x0 x1 x3 x4 x5 x7 x8 S) := by
  induction n with
  | zero => intros; exact sm_none
  | succ n ih => intro x0 x1 x3 x4 x5 x7 x8 S; exact sB_X8_loan_158 Z  (L_X8_loan_158  n) ih x0 x1 x3 x4 x5 x7 x8 S
set_option maxRecDepth 20000 in
set_option maxHeartbeats 4000000 in
theorem sJ_X8_loan_87 (Z : ZT)  (x0 : Nat) (x1 : Int64) (x3 : Int32) (x4 : Int32) (x5 : Int32) (t0 : Int32) (S : St) : Sim eI Z rm_X8_loan RX8 cX8_loan 9 (some .int) 87 [(0, .ref x0), (1, .long x1), (3, .int x3), (4, .int x4), (5, .int x5)] [.int t0] S (J_X8_loan_87  x0 x1 x3 x4 x5 t0 S) := by
  unfold J_X8_loan_87
  refine sm_istore (pc := 87) (lv' := [(6, .int t0), (0, .ref x0), (1, .long x1), (3, .int x3), (4, .int x4), (5, .int x5)]) dX8_loan_87 (by decide) rfl ?_
  refine sm_iload (pc := 89) dX8_loan_89 0 rfl ?_
  refine sm_if_ne 96 (pc := 91) dX8_loan_91 rfl ?_ ?_
  · refine sm_aload_n (pc := 96) dX8_loan_96 rfl 1 rfl ?_
    refine sm_getR (pc := 97) dX8_loan_97 fr_RX8_9 (by decide) rfl (fun v97 => ?_)
    refine sm_sipush (pc := 100) (2521 : Int32) dX8_loan_100 (by decide) ?_
    refine sm_aJ (pc := 103) dX8_loan_103 (fun v103 => ?_)
    refine sm_l2i (pc := 104) dX8_loan_104 ?_
    refine sm_iload (pc := 105) dX8_loan_105 5 rfl ?_
    refine sm_bipush (pc := 107) (100 : Int32) dX8_loan_107 (by decide) ?_
    refine sm_iremc (pc := 109) dX8_loan_109 (by decide) ?_
    refine sm_callSI (pc := 110) [.int (Int64.toInt32 v103), .int (x5 - x5 / (100 : Int32) * (100 : Int32))] (fun lq rq Sq hq => m_X8_monthsBehind Z lq (Int64.toInt32 v103) (x5 - x5 / (100 : Int32) * (100 : Int32)) S hq) dX8_loan_110 mi_X8_monthsBehind ml_RX8_140 ⟨Nat.le_of_ble_eq_true rfl, Nat.le_of_ble_eq_true rfl, rfl, rfl⟩ rfl (Nat.le_of_ble_eq_true rfl) rfl (fun r110 S110 => ?_)
    refine sm_ldc (pc := 113) (36524 : Int32) dX8_loan_113 kc_RX8_168 ?_
    refine sm_icmp_le 121 (pc := 115) dX8_loan_115 rfl ?_ ?_
    · refine sm_aload_n (pc := 121) dX8_loan_121 rfl 1 rfl ?_
      refine sm_getR (pc := 122) dX8_loan_122 fr_RX8_9 (by decide) rfl (fun v122 => ?_)
      refine sm_sipush (pc := 125) (2520 : Int32) dX8_loan_125 (by decide) ?_
      refine sm_aJ (pc := 128) dX8_loan_128 (fun v128 => ?_)
      refine sm_ldc2 (pc := 129) (8 : Int64) dX8_loan_129 kc_RX8_169 ?_
      refine sm_lcmp_ne 139 (pc := 132) dX8_loan_132 dX8_loan_133 rfl ?_ ?_
      · refine sm_aload_n (pc := 139) dX8_loan_139 rfl 1 rfl ?_
        refine sm_getR (pc := 140) dX8_loan_140 fr_RX8_9 (by decide) rfl (fun v140 => ?_)
        refine sm_sipush (pc := 143) (2520 : Int32) dX8_loan_143 (by decide) ?_
        refine sm_dup2_11 (pc := 146) dX8_loan_146 rfl rfl ?_
        refine sm_aJ (pc := 147) dX8_loan_147 (fun v147 => ?_)
        refine sm_dup2_x2 (pc := 148) dX8_loan_148 rfl rfl rfl ?_
        refine sm_lconst (pc := 149) (1 : Int64) dX8_loan_149 (by decide) ?_
        refine sm_ladd (pc := 150) dX8_loan_150 ?_
        refine sm_sJ (pc := 151) dX8_loan_151 (fun S151 => ?_)
        refine sm_l2i (pc := 152) dX8_loan_152 ?_
        refine sm_bdI (fun v153 => ?_)
        refine sm_istore (pc := 153) (lv' := [(7, .int v153), (6, .int t0), (0, .ref x0), (1, .long x1), (3, .int x3), (4, .int x4), (5, .int x5)]) dX8_loan_153 (by decide) rfl ?_
        refine sm_iconst (pc := 155) (0 : Int32) dX8_loan_155 (by decide) ?_
        refine sm_istore (pc := 156) (lv' := [(8, .int (0 : Int32)), (7, .int v153), (6, .int t0), (0, .ref x0), (1, .long x1), (3, .int x3), (4, .int x4), (5, .int x5)]) dX8_loan_156 (by decide) rfl ?_
        refine sm_sub [3, 4, 5, 6, 7, 1, 0] rfl ?_
        exact sL_X8_loan_158 Z  6000 x0 x1 x3 x4 x5 v153 (0 : Int32) S151
      refine sm_bipush (pc := 136) (-3 : Int32) dX8_loan_136 (by decide) ?_
      exact sm_retI (pc := 138) dX8_loan_138
    refine sm_bipush (pc := 118) (-5 : Int32) dX8_loan_118 (by decide) ?_
    exact sm_retI (pc := 120) dX8_loan_120
  refine sm_iconst (pc := 94) (-1 : Int32) dX8_loan_94 (by decide) ?_
  exact sm_retI (pc := 95) dX8_loan_95
set_option maxRecDepth 20000 in
set_option maxHeartbeats 4000000 in
theorem sJ_X8_loan_86 (Z : ZT)  (x0 : Nat) (x1 : Int64) (x3 : Int32) (x4 : Int32) (x5 : Int32)  (S : St) : Sim eI Z rm_X8_loan RX8 cX8_loan 9 (some .int) 86 [(0, .ref x0), (1, .long x1), (3, .int x3), (4, .int x4), (5, .int x5)] [] S (J_X8_loan_86  x0 x1 x3 x4 x5 S) := by
  unfold J_X8_loan_86
  refine sm_iconst (pc := 86) (0 : Int32) dX8_loan_86 (by decide) ?_
  refine sm_sub [0, 1, 2, 3, 4] rfl ?_
  exact sJ_X8_loan_87 Z  x0 x1 x3 x4 x5 (0 : Int32) S
set_option maxRecDepth 20000 in
set_option maxHeartbeats 4000000 in
theorem s_X8_loan (Z : ZT) (c : Nat) (a1 : Int64) (a2 : Int32) (a3 : Int32) (a4 : Int32) (S : St) : Sim eI Z rm_X8_loan RX8 cX8_loan 9 (some .int) 0 [(0, .ref c), (1, .long a1), (3, .int a2), (4, .int a3), (5, .int a4)] [] S (F_X8_loan c a1 a2 a3 a4 S) := by
  unfold F_X8_loan
  refine sm_lload_n (pc := 0) dX8_loan_0 rfl 1 rfl ?_
  refine sm_lconst (pc := 1) (1 : Int64) dX8_loan_1 (by decide) ?_
  refine sm_ldc2 (pc := 2) (100000000 : Int64) dX8_loan_2 kc_RX8_126 ?_
  refine sm_callSI (pc := 5) [.long a1, .long (1 : Int64), .long (100000000 : Int64)] (fun lq rq Sq hq => m_X8_in Z lq a1 (1 : Int64) (100000000 : Int64) S hq) dX8_loan_5 mi_X8_in ml_RX8_85 ⟨Nat.le_of_ble_eq_true rfl, Nat.le_of_ble_eq_true rfl, rfl, rfl⟩ rfl (Nat.le_of_ble_eq_true rfl) rfl (fun r5 S5 => ?_)
  refine sm_if_eq 86 (pc := 8) dX8_loan_8 rfl ?_ ?_
  · refine sm_sub [0, 1, 2, 3, 4] rfl ?_
    exact sJ_X8_loan_86 Z  c a1 a2 a3 a4 S5
  refine sm_iload_n (pc := 11) dX8_loan_11 rfl 2 rfl ?_
  refine sm_i2l (pc := 12) dX8_loan_12 ?_
  refine sm_lconst (pc := 13) (0 : Int64) dX8_loan_13 (by decide) ?_
  refine sm_ldc2 (pc := 14) (5000 : Int64) dX8_loan_14 kc_RX8_128 ?_
  refine sm_callSI (pc := 17) [.long (Int32.toInt64 a2), .long (0 : Int64), .long (5000 : Int64)] (fun lq rq Sq hq => m_X8_in Z lq (Int32.toInt64 a2) (0 : Int64) (5000 : Int64) S5 hq) dX8_loan_17 mi_X8_in ml_RX8_85 ⟨Nat.le_of_ble_eq_true rfl, Nat.le_of_ble_eq_true rfl, rfl, rfl⟩ rfl (Nat.le_of_ble_eq_true rfl) rfl (fun r17 S17 => ?_)
  refine sm_if_eq 86 (pc := 20) dX8_loan_20 rfl ?_ ?_
  · refine sm_sub [0, 1, 2, 3, 4] rfl ?_
    exact sJ_X8_loan_86 Z  c a1 a2 a3 a4 S17
  refine sm_iload (pc := 23) dX8_loan_23 3 rfl ?_
  refine sm_i2l (pc := 25) dX8_loan_25 ?_
  refine sm_lconst (pc := 26) (0 : Int64) dX8_loan_26 (by decide) ?_
  refine sm_ldc2 (pc := 27) (3 : Int64) dX8_loan_27 kc_RX8_92 ?_
  refine sm_callSI (pc := 30) [.long (Int32.toInt64 a3), .long (0 : Int64), .long (3 : Int64)] (fun lq rq Sq hq => m_X8_in Z lq (Int32.toInt64 a3) (0 : Int64) (3 : Int64) S17 hq) dX8_loan_30 mi_X8_in ml_RX8_85 ⟨Nat.le_of_ble_eq_true rfl, Nat.le_of_ble_eq_true rfl, rfl, rfl⟩ rfl (Nat.le_of_ble_eq_true rfl) rfl (fun r30 S30 => ?_)
  refine sm_if_eq 86 (pc := 33) dX8_loan_33 rfl ?_ ?_
  · refine sm_sub [0, 1, 2, 3, 4] rfl ?_
    exact sJ_X8_loan_86 Z  c a1 a2 a3 a4 S30
  refine sm_iload (pc := 36) dX8_loan_36 4 rfl ?_
  refine sm_i2l (pc := 38) dX8_loan_38 ?_
  refine sm_lconst (pc := 39) (0 : Int64) dX8_loan_39 (by decide) ?_
  refine sm_ldc2 (pc := 40) (2999 : Int64) dX8_loan_40 kc_RX8_164 ?_
  refine sm_callSI (pc := 43) [.long (Int32.toInt64 a4), .long (0 : Int64), .long (2999 : Int64)] (fun lq rq Sq hq => m_X8_in Z lq (Int32.toInt64 a4) (0 : Int64) (2999 : Int64) S30 hq) dX8_loan_43 mi_X8_in ml_RX8_85 ⟨Nat.le_of_ble_eq_true rfl, Nat.le_of_ble_eq_true rfl, rfl, rfl⟩ rfl (Nat.le_of_ble_eq_true rfl) rfl (fun r43 S43 => ?_)
  refine sm_if_eq 86 (pc := 46) dX8_loan_46 rfl ?_ ?_
  · refine sm_sub [0, 1, 2, 3, 4] rfl ?_
    exact sJ_X8_loan_86 Z  c a1 a2 a3 a4 S43
  refine sm_iload (pc := 49) dX8_loan_49 4 rfl ?_
  refine sm_bipush (pc := 51) (100 : Int32) dX8_loan_51 (by decide) ?_
  refine sm_idivc (pc := 53) dX8_loan_53 (by decide) ?_
  refine sm_bipush (pc := 54) (10 : Int32) dX8_loan_54 (by decide) ?_
  refine sm_iremc (pc := 56) dX8_loan_56 (by decide) ?_
  refine sm_i2l (pc := 57) dX8_loan_57 ?_
  refine sm_lconst (pc := 58) (0 : Int64) dX8_loan_58 (by decide) ?_
  refine sm_lconst (pc := 59) (1 : Int64) dX8_loan_59 (by decide) ?_
  refine sm_callSI (pc := 60) [.long (Int32.toInt64 ((a4 / (100 : Int32)) - (a4 / (100 : Int32)) / (10 : Int32) * (10 : Int32))), .long (0 : Int64), .long (1 : Int64)] (fun lq rq Sq hq => m_X8_in Z lq (Int32.toInt64 ((a4 / (100 : Int32)) - (a4 / (100 : Int32)) / (10 : Int32) * (10 : Int32))) (0 : Int64) (1 : Int64) S43 hq) dX8_loan_60 mi_X8_in ml_RX8_85 ⟨Nat.le_of_ble_eq_true rfl, Nat.le_of_ble_eq_true rfl, rfl, rfl⟩ rfl (Nat.le_of_ble_eq_true rfl) rfl (fun r60 S60 => ?_)
  refine sm_if_eq 86 (pc := 63) dX8_loan_63 rfl ?_ ?_
  · refine sm_sub [0, 1, 2, 3, 4] rfl ?_
    exact sJ_X8_loan_86 Z  c a1 a2 a3 a4 S60
  refine sm_iload (pc := 66) dX8_loan_66 4 rfl ?_
  refine sm_bipush (pc := 68) (100 : Int32) dX8_loan_68 (by decide) ?_
  refine sm_iremc (pc := 70) dX8_loan_70 (by decide) ?_
  refine sm_i2l (pc := 71) dX8_loan_71 ?_
  refine sm_lconst (pc := 72) (1 : Int64) dX8_loan_72 (by decide) ?_
  refine sm_ldc2 (pc := 73) (60 : Int64) dX8_loan_73 kc_RX8_166 ?_
  refine sm_callSI (pc := 76) [.long (Int32.toInt64 (a4 - a4 / (100 : Int32) * (100 : Int32))), .long (1 : Int64), .long (60 : Int64)] (fun lq rq Sq hq => m_X8_in Z lq (Int32.toInt64 (a4 - a4 / (100 : Int32) * (100 : Int32))) (1 : Int64) (60 : Int64) S60 hq) dX8_loan_76 mi_X8_in ml_RX8_85 ⟨Nat.le_of_ble_eq_true rfl, Nat.le_of_ble_eq_true rfl, rfl, rfl⟩ rfl (Nat.le_of_ble_eq_true rfl) rfl (fun r76 S76 => ?_)
  refine sm_if_eq 86 (pc := 79) dX8_loan_79 rfl ?_ ?_
  · refine sm_sub [0, 1, 2, 3, 4] rfl ?_
    exact sJ_X8_loan_86 Z  c a1 a2 a3 a4 S76
  refine sm_iconst (pc := 82) (1 : Int32) dX8_loan_82 (by decide) ?_
  refine sm_goto 87 (pc := 83) dX8_loan_83 rfl ?_
  refine sm_sub [0, 1, 2, 3, 4] rfl ?_
  exact sJ_X8_loan_87 Z  c a1 a2 a3 a4 (1 : Int32) S76
set_option maxRecDepth 20000 in
set_option maxHeartbeats 4000000 in
theorem m_X8_loan (Z : ZT) (l : Launch) (c : Nat) (a1 : Int64) (a2 : Int32) (a3 : Int32) (a4 : Int32) (S : St) {r : Int32} {S' : St} (h : F_X8_loan c a1 a2 a3 a4 S = some (r, S')) : MetX Z l yX8_loan cX8_loan 9 (some .int) rm_X8_loan [.ref c, .long a1, .int a2, .int a3, .int a4] S (eI r) S' := Sim.met (by decide +kernel) rfl (Nat.le_of_ble_eq_true rfl) (s_X8_loan Z c a1 a2 a3 a4 S) l h
set_option maxRecDepth 20000 in
set_option maxHeartbeats 4000000 in
theorem sJ_X8_principalOf_69 (Z : ZT)   (t0 : Int64) (S : St) : Sim eL Z rm_X8_principalOf RX8 cX8_principalOf 8 (some .long) 69 [] [.long t0] S (J_X8_principalOf_69  t0 S) := by
  unfold J_X8_principalOf_69
  exact sm_retL (pc := 69) dX8_principalOf_69
set_option maxRecDepth 20000 in
set_option maxHeartbeats 4000000 in
theorem s_X8_principalOf (Z : ZT) (c : Nat) (a1 : Int32) (a2 : Int64) (a3 : Int64) (a4 : Int32) (S : St) : Sim eL Z rm_X8_principalOf RX8 cX8_principalOf 8 (some .long) 0 [(0, .ref c), (1, .int a1), (2, .long a2), (4, .long a3), (6, .int a4)] [] S (F_X8_principalOf c a1 a2 a3 a4 S) := by
  unfold F_X8_principalOf
  refine sm_aload_n (pc := 0) dX8_principalOf_0 rfl 0 rfl ?_
  refine sm_iload_n (pc := 1) dX8_principalOf_1 rfl 1 rfl ?_
  refine sm_iconst (pc := 2) (4 : Int32) dX8_principalOf_2 (by decide) ?_
  refine sm_callVL (pc := 3) [.int a1, .int (4 : Int32)] (fun lq rq Sq hq => m_X8_at Z lq c a1 (4 : Int32) S hq) dX8_principalOf_3 mi_X8_at ml_RX8_136 ⟨Nat.le_of_ble_eq_true rfl, Nat.le_of_ble_eq_true rfl, rfl, rfl⟩ rfl (by decide) rfl (Nat.le_of_ble_eq_true rfl) rfl (fun r3 S3 => ?_)
  refine sm_l2i (pc := 6) dX8_principalOf_6 ?_
  refine sm_iload (pc := 7) dX8_principalOf_7 4 rfl ?_
  refine sm_isub (pc := 9) dX8_principalOf_9 ?_
  refine sm_bdI (fun v10 => ?_)
  refine sm_istore (pc := 10) (lv' := [(7, .int v10), (0, .ref c), (1, .int a1), (2, .long a2), (4, .long a3), (6, .int a4)]) dX8_principalOf_10 (by decide) rfl ?_
  refine sm_iload (pc := 12) dX8_principalOf_12 0 rfl ?_
  refine sm_iconst (pc := 14) (1 : Int32) dX8_principalOf_14 (by decide) ?_
  refine sm_icmp_ne 20 (pc := 15) dX8_principalOf_15 rfl ?_ ?_
  · refine sm_aload_n (pc := 20) dX8_principalOf_20 rfl 1 rfl ?_
    refine sm_iload_n (pc := 21) dX8_principalOf_21 rfl 2 rfl ?_
    refine sm_iconst (pc := 22) (3 : Int32) dX8_principalOf_22 (by decide) ?_
    refine sm_callVL (pc := 23) [.int a1, .int (3 : Int32)] (fun lq rq Sq hq => m_X8_at Z lq c a1 (3 : Int32) S3 hq) dX8_principalOf_23 mi_X8_at ml_RX8_136 ⟨Nat.le_of_ble_eq_true rfl, Nat.le_of_ble_eq_true rfl, rfl, rfl⟩ rfl (by decide) rfl (Nat.le_of_ble_eq_true rfl) rfl (fun r23 S23 => ?_)
    refine sm_lconst (pc := 26) (0 : Int64) dX8_principalOf_26 (by decide) ?_
    refine sm_lcmp_ne 49 (pc := 27) dX8_principalOf_27 dX8_principalOf_28 rfl ?_ ?_
    · refine sm_aload_n (pc := 49) dX8_principalOf_49 rfl 1 rfl ?_
      refine sm_iload_n (pc := 50) dX8_principalOf_50 rfl 2 rfl ?_
      refine sm_iconst (pc := 51) (3 : Int32) dX8_principalOf_51 (by decide) ?_
      refine sm_callVL (pc := 52) [.int a1, .int (3 : Int32)] (fun lq rq Sq hq => m_X8_at Z lq c a1 (3 : Int32) S23 hq) dX8_principalOf_52 mi_X8_at ml_RX8_136 ⟨Nat.le_of_ble_eq_true rfl, Nat.le_of_ble_eq_true rfl, rfl, rfl⟩ rfl (by decide) rfl (Nat.le_of_ble_eq_true rfl) rfl (fun r52 S52 => ?_)
      refine sm_lconst (pc := 55) (1 : Int64) dX8_principalOf_55 (by decide) ?_
      refine sm_lcmp_ne 68 (pc := 56) dX8_principalOf_56 dX8_principalOf_57 rfl ?_ ?_
      · refine sm_lconst (pc := 68) (0 : Int64) dX8_principalOf_68 (by decide) ?_
        refine sm_sub [] rfl ?_
        exact sJ_X8_principalOf_69 Z  (0 : Int64) S52
      refine sm_lload_n (pc := 60) dX8_principalOf_60 rfl 3 rfl ?_
      refine sm_iload (pc := 61) dX8_principalOf_61 0 rfl ?_
      refine sm_i2l (pc := 63) dX8_principalOf_63 ?_
      refine sm_ldiv (pc := 64) dX8_principalOf_64 ?_
      refine sm_goto 69 (pc := 65) dX8_principalOf_65 rfl ?_
      refine sm_sub [] rfl ?_
      exact sJ_X8_principalOf_69 Z  (a2 / (Int32.toInt64 v10)) S52
    refine sm_aload_n (pc := 31) dX8_principalOf_31 rfl 1 rfl ?_
    refine sm_iload_n (pc := 32) dX8_principalOf_32 rfl 2 rfl ?_
    refine sm_bipush (pc := 33) (9 : Int32) dX8_principalOf_33 (by decide) ?_
    refine sm_callVL (pc := 35) [.int a1, .int (9 : Int32)] (fun lq rq Sq hq => m_X8_at Z lq c a1 (9 : Int32) S23 hq) dX8_principalOf_35 mi_X8_at ml_RX8_136 ⟨Nat.le_of_ble_eq_true rfl, Nat.le_of_ble_eq_true rfl, rfl, rfl⟩ rfl (by decide) rfl (Nat.le_of_ble_eq_true rfl) rfl (fun r35 S35 => ?_)
    refine sm_lload (pc := 38) dX8_principalOf_38 4 rfl ?_
    refine sm_lsub (pc := 40) dX8_principalOf_40 ?_
    refine sm_lconst (pc := 41) (0 : Int64) dX8_principalOf_41 (by decide) ?_
    refine sm_lload_n (pc := 42) dX8_principalOf_42 rfl 3 rfl ?_
    refine sm_callSL (pc := 43) [.long (r35 - a3), .long (0 : Int64), .long a2] (fun lq rq Sq hq => m_X8_cut Z lq (r35 - a3) (0 : Int64) a2 S35 hq) dX8_principalOf_43 mi_X8_cut ml_RX8_150 ⟨Nat.le_of_ble_eq_true rfl, Nat.le_of_ble_eq_true rfl, rfl, rfl⟩ rfl (Nat.le_of_ble_eq_true rfl) rfl (fun r43 S43 => ?_)
    refine sm_goto 69 (pc := 46) dX8_principalOf_46 rfl ?_
    refine sm_sub [] rfl ?_
    exact sJ_X8_principalOf_69 Z  r43 S43
  refine sm_lload_n (pc := 18) dX8_principalOf_18 rfl 3 rfl ?_
  exact sm_retL (pc := 19) dX8_principalOf_19
set_option maxRecDepth 20000 in
set_option maxHeartbeats 4000000 in
theorem m_X8_principalOf (Z : ZT) (l : Launch) (c : Nat) (a1 : Int32) (a2 : Int64) (a3 : Int64) (a4 : Int32) (S : St) {r : Int64} {S' : St} (h : F_X8_principalOf c a1 a2 a3 a4 S = some (r, S')) : MetX Z l yX8_principalOf cX8_principalOf 8 (some .long) rm_X8_principalOf [.ref c, .int a1, .long a2, .long a3, .int a4] S (eL r) S' := Sim.met (by decide +kernel) rfl (Nat.le_of_ble_eq_true rfl) (s_X8_principalOf Z c a1 a2 a3 a4 S) l h
set_option maxRecDepth 20000 in
set_option maxHeartbeats 4000000 in
theorem s_X8_ends (Z : ZT) (c : Nat) (a1 : Int32) (S : St) : Sim eI Z rm_X8_ends RX8 cX8_ends 10 (some .boolean) 0 [(0, .ref c), (1, .int a1)] [] S (F_X8_ends c a1 S) := by
  unfold F_X8_ends
  refine sm_aload_n (pc := 0) dX8_ends_0 rfl 0 rfl ?_
  refine sm_iload_n (pc := 1) dX8_ends_1 rfl 1 rfl ?_
  refine sm_bipush (pc := 2) (7 : Int32) dX8_ends_2 (by decide) ?_
  refine sm_callVL (pc := 4) [.int a1, .int (7 : Int32)] (fun lq rq Sq hq => m_X8_at Z lq c a1 (7 : Int32) S hq) dX8_ends_4 mi_X8_at ml_RX8_136 ⟨Nat.le_of_ble_eq_true rfl, Nat.le_of_ble_eq_true rfl, rfl, rfl⟩ rfl (by decide) rfl (Nat.le_of_ble_eq_true rfl) rfl (fun r4 S4 => ?_)
  refine sm_l2i (pc := 7) dX8_ends_7 ?_
  refine sm_bdI (fun v8 => ?_)
  refine sm_istore_n (pc := 8) (lv' := [(2, .int v8), (0, .ref c), (1, .int a1)]) dX8_ends_8 rfl (by decide) rfl ?_
  refine sm_aload_n (pc := 9) dX8_ends_9 rfl 1 rfl ?_
  refine sm_iload_n (pc := 10) dX8_ends_10 rfl 2 rfl ?_
  refine sm_bipush (pc := 11) (8 : Int32) dX8_ends_11 (by decide) ?_
  refine sm_callVL (pc := 13) [.int a1, .int (8 : Int32)] (fun lq rq Sq hq => m_X8_at Z lq c a1 (8 : Int32) S4 hq) dX8_ends_13 mi_X8_at ml_RX8_136 ⟨Nat.le_of_ble_eq_true rfl, Nat.le_of_ble_eq_true rfl, rfl, rfl⟩ rfl (by decide) rfl (Nat.le_of_ble_eq_true rfl) rfl (fun r13 S13 => ?_)
  refine sm_lstore_n (pc := 16) (lv' := [(3, .long r13), (2, .int v8), (0, .ref c), (1, .int a1)]) dX8_ends_16 rfl (by decide) rfl ?_
  refine sm_aload_n (pc := 17) dX8_ends_17 rfl 2 rfl ?_
  refine sm_iload_n (pc := 18) dX8_ends_18 rfl 3 rfl ?_
  refine sm_lload_n (pc := 19) dX8_ends_19 rfl 0 rfl ?_
  refine sm_iload_n (pc := 20) dX8_ends_20 rfl 1 rfl ?_
  refine sm_callVL (pc := 21) [.int a1, .long r13, .int v8] (fun lq rq Sq hq => m_X8_periodInterest Z lq c a1 r13 v8 S13 hq) dX8_ends_21 mi_X8_periodInterest ml_RX8_146 ⟨Nat.le_of_ble_eq_true rfl, Nat.le_of_ble_eq_true rfl, rfl, rfl⟩ rfl (by decide) rfl (Nat.le_of_ble_eq_true rfl) rfl (fun r21 S21 => ?_)
  refine sm_lstore (pc := 24) (lv' := [(5, .long r21), (3, .long r13), (2, .int v8), (0, .ref c), (1, .int a1)]) dX8_ends_24 (by decide) rfl ?_
  refine sm_aload_n (pc := 26) dX8_ends_26 rfl 3 rfl ?_
  refine sm_iload_n (pc := 27) dX8_ends_27 rfl 4 rfl ?_
  refine sm_lload_n (pc := 28) dX8_ends_28 rfl 1 rfl ?_
  refine sm_lload (pc := 29) dX8_ends_29 0 rfl ?_
  refine sm_iload_n (pc := 31) dX8_ends_31 rfl 2 rfl ?_
  refine sm_callVL (pc := 32) [.int a1, .long r13, .long r21, .int v8] (fun lq rq Sq hq => m_X8_principalOf Z lq c a1 r13 r21 v8 S21 hq) dX8_ends_32 mi_X8_principalOf ml_RX8_175 ⟨Nat.le_of_ble_eq_true rfl, Nat.le_of_ble_eq_true rfl, rfl, rfl⟩ rfl (by decide) rfl (Nat.le_of_ble_eq_true rfl) rfl (fun r32 S32 => ?_)
  refine sm_lstore (pc := 35) (lv' := [(7, .long r32), (5, .long r21), (3, .long r13), (2, .int v8), (0, .ref c), (1, .int a1)]) dX8_ends_35 (by decide) rfl ?_
  refine sm_aload_n (pc := 37) dX8_ends_37 rfl 4 rfl ?_
  refine sm_iload_n (pc := 38) dX8_ends_38 rfl 5 rfl ?_
  refine sm_bipush (pc := 39) (7 : Int32) dX8_ends_39 (by decide) ?_
  refine sm_iload_n (pc := 41) dX8_ends_41 rfl 3 rfl ?_
  refine sm_iconst (pc := 42) (1 : Int32) dX8_ends_42 (by decide) ?_
  refine sm_iadd (pc := 43) dX8_ends_43 ?_
  refine sm_i2l (pc := 44) dX8_ends_44 ?_
  refine sm_callVV (pc := 45) [.int a1, .int (7 : Int32), .long (Int32.toInt64 (v8 + (1 : Int32)))] (fun lq rq Sq hq => m_X8_sets Z lq c a1 (7 : Int32) (Int32.toInt64 (v8 + (1 : Int32))) S32 hq) dX8_ends_45 mi_X8_sets ml_RX8_160 ⟨Nat.le_of_ble_eq_true rfl, Nat.le_of_ble_eq_true rfl, rfl, rfl⟩ rfl (by decide) rfl (Nat.le_of_ble_eq_true rfl) rfl (fun _ S45 => ?_)
  refine sm_aload_n (pc := 48) dX8_ends_48 rfl 4 rfl ?_
  refine sm_iload_n (pc := 49) dX8_ends_49 rfl 5 rfl ?_
  refine sm_bipush (pc := 50) (8 : Int32) dX8_ends_50 (by decide) ?_
  refine sm_lload_n (pc := 52) dX8_ends_52 rfl 2 rfl ?_
  refine sm_lload (pc := 53) dX8_ends_53 0 rfl ?_
  refine sm_lsub (pc := 55) dX8_ends_55 ?_
  refine sm_callVV (pc := 56) [.int a1, .int (8 : Int32), .long (r13 - r32)] (fun lq rq Sq hq => m_X8_sets Z lq c a1 (8 : Int32) (r13 - r32) S45 hq) dX8_ends_56 mi_X8_sets ml_RX8_160 ⟨Nat.le_of_ble_eq_true rfl, Nat.le_of_ble_eq_true rfl, rfl, rfl⟩ rfl (by decide) rfl (Nat.le_of_ble_eq_true rfl) rfl (fun _ S56 => ?_)
  refine sm_lload (pc := 59) dX8_ends_59 1 rfl ?_
  refine sm_lload (pc := 61) dX8_ends_61 0 rfl ?_
  refine sm_ladd (pc := 63) dX8_ends_63 ?_
  refine sm_lconst (pc := 64) (0 : Int64) dX8_ends_64 (by decide) ?_
  refine sm_lcmp_ne 71 (pc := 65) dX8_ends_65 dX8_ends_66 rfl ?_ ?_
  · refine sm_bipush (pc := 71) (15 : Int32) dX8_ends_71 (by decide) ?_
    refine sm_iconst (pc := 73) (5 : Int32) dX8_ends_73 (by decide) ?_
    refine sm_aload_n (pc := 74) dX8_ends_74 rfl 4 rfl ?_
    refine sm_iload_n (pc := 75) dX8_ends_75 rfl 5 rfl ?_
    refine sm_bipush (pc := 76) (14 : Int32) dX8_ends_76 (by decide) ?_
    refine sm_callVL (pc := 78) [.int a1, .int (14 : Int32)] (fun lq rq Sq hq => m_X8_at Z lq c a1 (14 : Int32) S56 hq) dX8_ends_78 mi_X8_at ml_RX8_136 ⟨Nat.le_of_ble_eq_true rfl, Nat.le_of_ble_eq_true rfl, rfl, rfl⟩ rfl (by decide) rfl (Nat.le_of_ble_eq_true rfl) rfl (fun r78 S78 => ?_)
    refine sm_l2i (pc := 81) dX8_ends_81 ?_
    refine sm_imul (pc := 82) dX8_ends_82 ?_
    refine sm_iadd (pc := 83) dX8_ends_83 ?_
    refine sm_bdI (fun v84 => ?_)
    refine sm_istore (pc := 84) (lv' := [(9, .int v84), (7, .long r32), (5, .long r21), (3, .long r13), (2, .int v8), (0, .ref c), (1, .int a1)]) dX8_ends_84 (by decide) rfl ?_
    refine sm_aload_n (pc := 86) dX8_ends_86 rfl 5 rfl ?_
    refine sm_iload_n (pc := 87) dX8_ends_87 rfl 6 rfl ?_
    refine sm_iload (pc := 88) dX8_ends_88 0 rfl ?_
    refine sm_aload_n (pc := 90) dX8_ends_90 rfl 5 rfl ?_
    refine sm_getR (pc := 91) dX8_ends_91 fr_RX8_9 (by decide) rfl (fun v91 => ?_)
    refine sm_sipush (pc := 94) (2521 : Int32) dX8_ends_94 (by decide) ?_
    refine sm_aJ (pc := 97) dX8_ends_97 (fun v97 => ?_)
    refine sm_callVV (pc := 98) [.int a1, .int v84, .long v97] (fun lq rq Sq hq => m_X8_sets Z lq c a1 v84 v97 S78 hq) dX8_ends_98 mi_X8_sets ml_RX8_160 ⟨Nat.le_of_ble_eq_true rfl, Nat.le_of_ble_eq_true rfl, rfl, rfl⟩ rfl (by decide) rfl (Nat.le_of_ble_eq_true rfl) rfl (fun _ S98 => ?_)
    refine sm_aload_n (pc := 101) dX8_ends_101 rfl 5 rfl ?_
    refine sm_iload_n (pc := 102) dX8_ends_102 rfl 6 rfl ?_
    refine sm_iload (pc := 103) dX8_ends_103 0 rfl ?_
    refine sm_iconst (pc := 105) (1 : Int32) dX8_ends_105 (by decide) ?_
    refine sm_iadd (pc := 106) dX8_ends_106 ?_
    refine sm_lload (pc := 107) dX8_ends_107 2 rfl ?_
    refine sm_callVV (pc := 109) [.int a1, .int (v84 + (1 : Int32)), .long r21] (fun lq rq Sq hq => m_X8_sets Z lq c a1 (v84 + (1 : Int32)) r21 S98 hq) dX8_ends_109 mi_X8_sets ml_RX8_160 ⟨Nat.le_of_ble_eq_true rfl, Nat.le_of_ble_eq_true rfl, rfl, rfl⟩ rfl (by decide) rfl (Nat.le_of_ble_eq_true rfl) rfl (fun _ S109 => ?_)
    refine sm_aload_n (pc := 112) dX8_ends_112 rfl 5 rfl ?_
    refine sm_iload_n (pc := 113) dX8_ends_113 rfl 6 rfl ?_
    refine sm_iload (pc := 114) dX8_ends_114 0 rfl ?_
    refine sm_iconst (pc := 116) (2 : Int32) dX8_ends_116 (by decide) ?_
    refine sm_iadd (pc := 117) dX8_ends_117 ?_
    refine sm_lload (pc := 118) dX8_ends_118 1 rfl ?_
    refine sm_callVV (pc := 120) [.int a1, .int (v84 + (2 : Int32)), .long r32] (fun lq rq Sq hq => m_X8_sets Z lq c a1 (v84 + (2 : Int32)) r32 S109 hq) dX8_ends_120 mi_X8_sets ml_RX8_160 ⟨Nat.le_of_ble_eq_true rfl, Nat.le_of_ble_eq_true rfl, rfl, rfl⟩ rfl (by decide) rfl (Nat.le_of_ble_eq_true rfl) rfl (fun _ S120 => ?_)
    refine sm_aload_n (pc := 123) dX8_ends_123 rfl 5 rfl ?_
    refine sm_iload_n (pc := 124) dX8_ends_124 rfl 6 rfl ?_
    refine sm_iload (pc := 125) dX8_ends_125 0 rfl ?_
    refine sm_iconst (pc := 127) (3 : Int32) dX8_ends_127 (by decide) ?_
    refine sm_iadd (pc := 128) dX8_ends_128 ?_
    refine sm_lconst (pc := 129) (0 : Int64) dX8_ends_129 (by decide) ?_
    refine sm_callVV (pc := 130) [.int a1, .int (v84 + (3 : Int32)), .long (0 : Int64)] (fun lq rq Sq hq => m_X8_sets Z lq c a1 (v84 + (3 : Int32)) (0 : Int64) S120 hq) dX8_ends_130 mi_X8_sets ml_RX8_160 ⟨Nat.le_of_ble_eq_true rfl, Nat.le_of_ble_eq_true rfl, rfl, rfl⟩ rfl (by decide) rfl (Nat.le_of_ble_eq_true rfl) rfl (fun _ S130 => ?_)
    refine sm_aload_n (pc := 133) dX8_ends_133 rfl 5 rfl ?_
    refine sm_iload_n (pc := 134) dX8_ends_134 rfl 6 rfl ?_
    refine sm_iload (pc := 135) dX8_ends_135 0 rfl ?_
    refine sm_iconst (pc := 137) (4 : Int32) dX8_ends_137 (by decide) ?_
    refine sm_iadd (pc := 138) dX8_ends_138 ?_
    refine sm_lconst (pc := 139) (0 : Int64) dX8_ends_139 (by decide) ?_
    refine sm_callVV (pc := 140) [.int a1, .int (v84 + (4 : Int32)), .long (0 : Int64)] (fun lq rq Sq hq => m_X8_sets Z lq c a1 (v84 + (4 : Int32)) (0 : Int64) S130 hq) dX8_ends_140 mi_X8_sets ml_RX8_160 ⟨Nat.le_of_ble_eq_true rfl, Nat.le_of_ble_eq_true rfl, rfl, rfl⟩ rfl (by decide) rfl (Nat.le_of_ble_eq_true rfl) rfl (fun _ S140 => ?_)
    refine sm_aload_n (pc := 143) dX8_ends_143 rfl 5 rfl ?_
    refine sm_iload_n (pc := 144) dX8_ends_144 rfl 6 rfl ?_
    refine sm_bipush (pc := 145) (14 : Int32) dX8_ends_145 (by decide) ?_
    refine sm_aload_n (pc := 147) dX8_ends_147 rfl 5 rfl ?_
    refine sm_iload_n (pc := 148) dX8_ends_148 rfl 6 rfl ?_
    refine sm_bipush (pc := 149) (14 : Int32) dX8_ends_149 (by decide) ?_
    refine sm_callVL (pc := 151) [.int a1, .int (14 : Int32)] (fun lq rq Sq hq => m_X8_at Z lq c a1 (14 : Int32) S140 hq) dX8_ends_151 mi_X8_at ml_RX8_136 ⟨Nat.le_of_ble_eq_true rfl, Nat.le_of_ble_eq_true rfl, rfl, rfl⟩ rfl (by decide) rfl (Nat.le_of_ble_eq_true rfl) rfl (fun r151 S151 => ?_)
    refine sm_lconst (pc := 154) (1 : Int64) dX8_ends_154 (by decide) ?_
    refine sm_ladd (pc := 155) dX8_ends_155 ?_
    refine sm_callVV (pc := 156) [.int a1, .int (14 : Int32), .long (r151 + (1 : Int64))] (fun lq rq Sq hq => m_X8_sets Z lq c a1 (14 : Int32) (r151 + (1 : Int64)) S151 hq) dX8_ends_156 mi_X8_sets ml_RX8_160 ⟨Nat.le_of_ble_eq_true rfl, Nat.le_of_ble_eq_true rfl, rfl, rfl⟩ rfl (by decide) rfl (Nat.le_of_ble_eq_true rfl) rfl (fun _ S156 => ?_)
    refine sm_iconst (pc := 159) (1 : Int32) dX8_ends_159 (by decide) ?_
    exact sm_retZ (pc := 160) dX8_ends_160
  refine sm_iconst (pc := 69) (0 : Int32) dX8_ends_69 (by decide) ?_
  exact sm_retZ (pc := 70) dX8_ends_70
set_option maxRecDepth 20000 in
set_option maxHeartbeats 4000000 in
theorem m_X8_ends (Z : ZT) (l : Launch) (c : Nat) (a1 : Int32) (S : St) {r : Int32} {S' : St} (h : F_X8_ends c a1 S = some (r, S')) : MetX Z l yX8_ends cX8_ends 10 (some .boolean) rm_X8_ends [.ref c, .int a1] S (eI r) S' := Sim.met (by decide +kernel) rfl (Nat.le_of_ble_eq_true rfl) (s_X8_ends Z c a1 S) l h
set_option maxRecDepth 20000 in
set_option maxHeartbeats 4000000 in
theorem sJ_X8_fees_87 (Z : ZT) (rec2 : (Nat → Int32 → Int32 → St → Option (Unit × St))) (h2 : ∀ (x0 : Nat) (x1 : Int32) (x2 : Int32)  (S : St), Sim eV Z rm_X8_fees RX8 cX8_fees 4 none 2 [(0, .ref x0), (1, .int x1), (2, .int x2)] [] S (rec2 x0 x1 x2 S)) (x0 : Nat) (x1 : Int32) (x2 : Int32)  (S : St) : Sim eV Z rm_X8_fees RX8 cX8_fees 4 none 87 [(0, .ref x0), (1, .int x1), (2, .int x2)] [] S (J_X8_fees_87 rec2 x0 x1 x2 S) := by
  unfold J_X8_fees_87
  refine sm_iinc (pc := 87) (x2 + 1) (lv' := [(2, .int (x2 + 1)), (0, .ref x0), (1, .int x1)]) dX8_fees_87 2 rfl rfl (by decide) rfl ?_
  refine sm_goto 2 (pc := 90) dX8_fees_90 rfl ?_
  refine sm_sub [1, 2, 0] rfl ?_
  exact h2 x0 x1 (x2 + 1) S
set_option maxRecDepth 20000 in
set_option maxHeartbeats 4000000 in
theorem sB_X8_fees_2 (Z : ZT) (rec2 : (Nat → Int32 → Int32 → St → Option (Unit × St))) (h2 : ∀ (x0 : Nat) (x1 : Int32) (x2 : Int32)  (S : St), Sim eV Z rm_X8_fees RX8 cX8_fees 4 none 2 [(0, .ref x0), (1, .int x1), (2, .int x2)] [] S (rec2 x0 x1 x2 S)) (x0 : Nat) (x1 : Int32) (x2 : Int32)  (S : St) : Sim eV Z rm_X8_fees RX8 cX8_fees 4 none 2 [(0, .ref x0), (1, .int x1), (2, .int x2)] [] S (B_X8_fees_2 rec2 x0 x1 x2 S) := by
  unfold B_X8_fees_2
  refine sm_iload_n (pc := 2) dX8_fees_2 rfl 2 rfl ?_
  refine sm_i2l (pc := 3) dX8_fees_3 ?_
  refine sm_aload_n (pc := 4) dX8_fees_4 rfl 0 rfl ?_
  refine sm_iload_n (pc := 5) dX8_fees_5 rfl 1 rfl ?_
  refine sm_bipush (pc := 6) (14 : Int32) dX8_fees_6 (by decide) ?_
  refine sm_callVL (pc := 8) [.int x1, .int (14 : Int32)] (fun lq rq Sq hq => m_X8_at Z lq x0 x1 (14 : Int32) S hq) dX8_fees_8 mi_X8_at ml_RX8_136 ⟨Nat.le_of_ble_eq_true rfl, Nat.le_of_ble_eq_true rfl, rfl, rfl⟩ rfl (by decide) rfl (Nat.le_of_ble_eq_true rfl) rfl (fun r8 S8 => ?_)
  refine sm_lcmp_ge 93 (pc := 11) dX8_fees_11 dX8_fees_12 rfl ?_ ?_
  · exact sm_retV (pc := 93) dX8_fees_93
  refine sm_bipush (pc := 15) (15 : Int32) dX8_fees_15 (by decide) ?_
  refine sm_iconst (pc := 17) (5 : Int32) dX8_fees_17 (by decide) ?_
  refine sm_iload_n (pc := 18) dX8_fees_18 rfl 2 rfl ?_
  refine sm_imul (pc := 19) dX8_fees_19 ?_
  refine sm_iadd (pc := 20) dX8_fees_20 ?_
  refine sm_bdI (fun v21 => ?_)
  refine sm_istore_n (pc := 21) (lv' := [(3, .int v21), (0, .ref x0), (1, .int x1), (2, .int x2)]) dX8_fees_21 rfl (by decide) rfl ?_
  refine sm_aload_n (pc := 22) dX8_fees_22 rfl 1 rfl ?_
  refine sm_iload_n (pc := 23) dX8_fees_23 rfl 2 rfl ?_
  refine sm_iload_n (pc := 24) dX8_fees_24 rfl 0 rfl ?_
  refine sm_iconst (pc := 25) (4 : Int32) dX8_fees_25 (by decide) ?_
  refine sm_iadd (pc := 26) dX8_fees_26 ?_
  refine sm_callVL (pc := 27) [.int x1, .int (v21 + (4 : Int32))] (fun lq rq Sq hq => m_X8_at Z lq x0 x1 (v21 + (4 : Int32)) S8 hq) dX8_fees_27 mi_X8_at ml_RX8_136 ⟨Nat.le_of_ble_eq_true rfl, Nat.le_of_ble_eq_true rfl, rfl, rfl⟩ rfl (by decide) rfl (Nat.le_of_ble_eq_true rfl) rfl (fun r27 S27 => ?_)
  refine sm_lconst (pc := 30) (0 : Int64) dX8_fees_30 (by decide) ?_
  refine sm_lcmp_ne 87 (pc := 31) dX8_fees_31 dX8_fees_32 rfl ?_ ?_
  · refine sm_sub [1, 2, 3] rfl ?_
    exact sJ_X8_fees_87 Z rec2 h2 x0 x1 x2 S27
  refine sm_aload_n (pc := 35) dX8_fees_35 rfl 1 rfl ?_
  refine sm_getR (pc := 36) dX8_fees_36 fr_RX8_9 (by decide) rfl (fun v36 => ?_)
  refine sm_sipush (pc := 39) (2521 : Int32) dX8_fees_39 (by decide) ?_
  refine sm_aJ (pc := 42) dX8_fees_42 (fun v42 => ?_)
  refine sm_aload_n (pc := 43) dX8_fees_43 rfl 1 rfl ?_
  refine sm_iload_n (pc := 44) dX8_fees_44 rfl 2 rfl ?_
  refine sm_iload_n (pc := 45) dX8_fees_45 rfl 0 rfl ?_
  refine sm_callVL (pc := 46) [.int x1, .int v21] (fun lq rq Sq hq => m_X8_at Z lq x0 x1 v21 S27 hq) dX8_fees_46 mi_X8_at ml_RX8_136 ⟨Nat.le_of_ble_eq_true rfl, Nat.le_of_ble_eq_true rfl, rfl, rfl⟩ rfl (by decide) rfl (Nat.le_of_ble_eq_true rfl) rfl (fun r46 S46 => ?_)
  refine sm_lsub (pc := 49) dX8_fees_49 ?_
  refine sm_aload_n (pc := 50) dX8_fees_50 rfl 1 rfl ?_
  refine sm_getR (pc := 51) dX8_fees_51 fr_RX8_9 (by decide) rfl (fun v51 => ?_)
  refine sm_sipush (pc := 54) (2522 : Int32) dX8_fees_54 (by decide) ?_
  refine sm_aJ (pc := 57) dX8_fees_57 (fun v57 => ?_)
  refine sm_lcmp_ne 87 (pc := 58) dX8_fees_58 dX8_fees_59 rfl ?_ ?_
  · refine sm_sub [1, 2, 3] rfl ?_
    exact sJ_X8_fees_87 Z rec2 h2 x0 x1 x2 S46
  refine sm_aload_n (pc := 62) dX8_fees_62 rfl 1 rfl ?_
  refine sm_iload_n (pc := 63) dX8_fees_63 rfl 2 rfl ?_
  refine sm_iload_n (pc := 64) dX8_fees_64 rfl 0 rfl ?_
  refine sm_iconst (pc := 65) (3 : Int32) dX8_fees_65 (by decide) ?_
  refine sm_iadd (pc := 66) dX8_fees_66 ?_
  refine sm_aload_n (pc := 67) dX8_fees_67 rfl 1 rfl ?_
  refine sm_getR (pc := 68) dX8_fees_68 fr_RX8_9 (by decide) rfl (fun v68 => ?_)
  refine sm_sipush (pc := 71) (2523 : Int32) dX8_fees_71 (by decide) ?_
  refine sm_aJ (pc := 74) dX8_fees_74 (fun v74 => ?_)
  refine sm_callVV (pc := 75) [.int x1, .int (v21 + (3 : Int32)), .long v74] (fun lq rq Sq hq => m_X8_sets Z lq x0 x1 (v21 + (3 : Int32)) v74 S46 hq) dX8_fees_75 mi_X8_sets ml_RX8_160 ⟨Nat.le_of_ble_eq_true rfl, Nat.le_of_ble_eq_true rfl, rfl, rfl⟩ rfl (by decide) rfl (Nat.le_of_ble_eq_true rfl) rfl (fun _ S75 => ?_)
  refine sm_aload_n (pc := 78) dX8_fees_78 rfl 1 rfl ?_
  refine sm_iload_n (pc := 79) dX8_fees_79 rfl 2 rfl ?_
  refine sm_iload_n (pc := 80) dX8_fees_80 rfl 0 rfl ?_
  refine sm_iconst (pc := 81) (4 : Int32) dX8_fees_81 (by decide) ?_
  refine sm_iadd (pc := 82) dX8_fees_82 ?_
  refine sm_lconst (pc := 83) (1 : Int64) dX8_fees_83 (by decide) ?_
  refine sm_callVV (pc := 84) [.int x1, .int (v21 + (4 : Int32)), .long (1 : Int64)] (fun lq rq Sq hq => m_X8_sets Z lq x0 x1 (v21 + (4 : Int32)) (1 : Int64) S75 hq) dX8_fees_84 mi_X8_sets ml_RX8_160 ⟨Nat.le_of_ble_eq_true rfl, Nat.le_of_ble_eq_true rfl, rfl, rfl⟩ rfl (by decide) rfl (Nat.le_of_ble_eq_true rfl) rfl (fun _ S84 => ?_)
  refine sm_sub [1, 2, 3] rfl ?_
  exact sJ_X8_fees_87 Z rec2 h2 x0 x1 x2 S84
set_option maxRecDepth 20000 in
set_option maxHeartbeats 4000000 in
theorem sL_X8_fees_2 (Z : ZT)  (n : Nat) : ∀ (x0 : Nat) (x1 : Int32) (x2 : Int32)  (S : St), Sim eV Z rm_X8_fees RX8 cX8_fees 4 none 2 [(0, .ref x0), (1, .int x1), (2, .int x2)] [] S (L_X8_fees_2  n x0 x1 x2 S) := by
  induction n with
  | zero => intros; exact sm_none
  | succ n ih => intro x0 x1 x2 S; exact sB_X8_fees_2 Z  (L_X8_fees_2  n) ih x0 x1 x2 S
set_option maxRecDepth 20000 in
set_option maxHeartbeats 4000000 in
theorem s_X8_fees (Z : ZT) (c : Nat) (a1 : Int32) (S : St) : Sim eV Z rm_X8_fees RX8 cX8_fees 4 none 0 [(0, .ref c), (1, .int a1)] [] S (F_X8_fees c a1 S) := by
  unfold F_X8_fees
  refine sm_iconst (pc := 0) (0 : Int32) dX8_fees_0 (by decide) ?_
  refine sm_istore_n (pc := 1) (lv' := [(2, .int (0 : Int32)), (0, .ref c), (1, .int a1)]) dX8_fees_1 rfl (by decide) rfl ?_
  refine sm_sub [1, 2, 0] rfl ?_
  exact sL_X8_fees_2 Z  6000 c a1 (0 : Int32) S
set_option maxRecDepth 20000 in
set_option maxHeartbeats 4000000 in
theorem m_X8_fees (Z : ZT) (l : Launch) (c : Nat) (a1 : Int32) (S : St) {r : Unit} {S' : St} (h : F_X8_fees c a1 S = some (r, S')) : MetX Z l yX8_fees cX8_fees 4 none rm_X8_fees [.ref c, .int a1] S (eV r) S' := Sim.met (by decide +kernel) rfl (Nat.le_of_ble_eq_true rfl) (s_X8_fees Z c a1 S) l h
set_option maxRecDepth 20000 in
set_option maxHeartbeats 4000000 in
theorem sJ_X8_days_139 (Z : ZT) (rec39 : (Nat → Int32 → Int32 → Int32 → St → Option (Int32 × St))) (h39 : ∀ (x0 : Nat) (x1 : Int32) (x2 : Int32) (x3 : Int32)  (S : St), Sim eI Z rm_X8_days RX8 cX8_days 6 (some .int) 39 [(0, .ref x0), (1, .int x1), (2, .int x2), (3, .int x3)] [] S (rec39 x0 x1 x2 x3 S)) (rec59 : (Nat → Int32 → Int32 → Int32 → Int32 → St → Option (Int32 × St))) (h59 : ∀ (x0 : Nat) (x1 : Int32) (x2 : Int32) (x3 : Int32) (x4 : Int32)  (S : St), Sim eI Z rm_X8_days RX8 cX8_days 6 (some .int) 59 [(0, .ref x0), (1, .int x1), (2, .int x2), (3, .int x3), (4, .int x4)] [] S (rec59 x0 x1 x2 x3 x4 S)) (x0 : Nat) (x1 : Int32) (x2 : Int32) (x3 : Int32) (x4 : Int32)  (S : St) : Sim eI Z rm_X8_days RX8 cX8_days 6 (some .int) 139 [(0, .ref x0), (1, .int x1), (2, .int x2), (3, .int x3), (4, .int x4)] [] S (J_X8_days_139 rec39 rec59 x0 x1 x2 x3 x4 S) := by
  unfold J_X8_days_139
  refine sm_iinc (pc := 139) (x4 + 1) (lv' := [(4, .int (x4 + 1)), (0, .ref x0), (1, .int x1), (2, .int x2), (3, .int x3)]) dX8_days_139 4 rfl rfl (by decide) rfl ?_
  refine sm_goto 59 (pc := 142) dX8_days_142 rfl ?_
  refine sm_sub [1, 2, 3, 4, 0] rfl ?_
  exact h59 x0 x1 x2 x3 (x4 + 1) S
set_option maxRecDepth 20000 in
set_option maxHeartbeats 4000000 in
theorem sJ_X8_days_137 (Z : ZT) (rec39 : (Nat → Int32 → Int32 → Int32 → St → Option (Int32 × St))) (h39 : ∀ (x0 : Nat) (x1 : Int32) (x2 : Int32) (x3 : Int32)  (S : St), Sim eI Z rm_X8_days RX8 cX8_days 6 (some .int) 39 [(0, .ref x0), (1, .int x1), (2, .int x2), (3, .int x3)] [] S (rec39 x0 x1 x2 x3 S)) (rec59 : (Nat → Int32 → Int32 → Int32 → Int32 → St → Option (Int32 × St))) (h59 : ∀ (x0 : Nat) (x1 : Int32) (x2 : Int32) (x3 : Int32) (x4 : Int32)  (S : St), Sim eI Z rm_X8_days RX8 cX8_days 6 (some .int) 59 [(0, .ref x0), (1, .int x1), (2, .int x2), (3, .int x3), (4, .int x4)] [] S (rec59 x0 x1 x2 x3 x4 S)) (x0 : Nat) (x1 : Int32) (x3 : Int32) (x4 : Int32) (t0 : Int32) (t1 : Int32) (S : St) : Sim eI Z rm_X8_days RX8 cX8_days 6 (some .int) 137 [(0, .ref x0), (1, .int x1), (3, .int x3), (4, .int x4)] [.int t0, .int t1] S (J_X8_days_137 rec39 rec59 x0 x1 x3 x4 t0 t1 S) := by
  unfold J_X8_days_137
  refine sm_iadd (pc := 137) dX8_days_137 ?_
  refine sm_bdI (fun v138 => ?_)
  refine sm_istore_n (pc := 138) (lv' := [(2, .int v138), (0, .ref x0), (1, .int x1), (3, .int x3), (4, .int x4)]) dX8_days_138 rfl (by decide) rfl ?_
  refine sm_sub [1, 2, 0, 3, 4] rfl ?_
  exact sJ_X8_days_139 Z rec39 h39 rec59 h59 x0 x1 v138 x3 x4 S
set_option maxRecDepth 20000 in
set_option maxHeartbeats 4000000 in
theorem sB_X8_days_148 (Z : ZT) (rec39 : (Nat → Int32 → Int32 → Int32 → St → Option (Int32 × St))) (h39 : ∀ (x0 : Nat) (x1 : Int32) (x2 : Int32) (x3 : Int32)  (S : St), Sim eI Z rm_X8_days RX8 cX8_days 6 (some .int) 39 [(0, .ref x0), (1, .int x1), (2, .int x2), (3, .int x3)] [] S (rec39 x0 x1 x2 x3 S)) (rec148 : (Nat → Int32 → Int32 → Int32 → Int32 → St → Option (Int32 × St))) (h148 : ∀ (x0 : Nat) (x1 : Int32) (x2 : Int32) (x3 : Int32) (x4 : Int32)  (S : St), Sim eI Z rm_X8_days RX8 cX8_days 6 (some .int) 148 [(0, .ref x0), (1, .int x1), (2, .int x2), (3, .int x3), (4, .int x4)] [] S (rec148 x0 x1 x2 x3 x4 S)) (x0 : Nat) (x1 : Int32) (x2 : Int32) (x3 : Int32) (x4 : Int32)  (S : St) : Sim eI Z rm_X8_days RX8 cX8_days 6 (some .int) 148 [(0, .ref x0), (1, .int x1), (2, .int x2), (3, .int x3), (4, .int x4)] [] S (B_X8_days_148 rec39 rec148 x0 x1 x2 x3 x4 S) := by
  unfold B_X8_days_148
  refine sm_iload (pc := 148) dX8_days_148 4 rfl ?_
  refine sm_i2l (pc := 150) dX8_days_150 ?_
  refine sm_aload_n (pc := 151) dX8_days_151 rfl 0 rfl ?_
  refine sm_getR (pc := 152) dX8_days_152 fr_RX8_9 (by decide) rfl (fun v152 => ?_)
  refine sm_sipush (pc := 155) (2520 : Int32) dX8_days_155 (by decide) ?_
  refine sm_aJ (pc := 158) dX8_days_158 (fun v158 => ?_)
  refine sm_lcmp_ge 175 (pc := 159) dX8_days_159 dX8_days_160 rfl ?_ ?_
  · refine sm_iinc (pc := 175) (x3 + 1) (lv' := [(3, .int (x3 + 1)), (0, .ref x0), (1, .int x1), (2, .int x2), (4, .int x4)]) dX8_days_175 3 rfl rfl (by decide) rfl ?_
    refine sm_goto 39 (pc := 178) dX8_days_178 rfl ?_
    refine sm_sub [1, 2, 3, 0] rfl ?_
    exact h39 x0 x1 x2 (x3 + 1) S
  refine sm_aload_n (pc := 163) dX8_days_163 rfl 0 rfl ?_
  refine sm_iload (pc := 164) dX8_days_164 4 rfl ?_
  refine sm_callVV (pc := 166) [.int x4] (fun lq rq Sq hq => m_X8_fees Z lq x0 x4 S hq) dX8_days_166 mi_X8_fees ml_RX8_184 ⟨Nat.le_of_ble_eq_true rfl, Nat.le_of_ble_eq_true rfl, rfl, rfl⟩ rfl (by decide) rfl (Nat.le_of_ble_eq_true rfl) rfl (fun _ S166 => ?_)
  refine sm_iinc (pc := 169) (x4 + 1) (lv' := [(4, .int (x4 + 1)), (0, .ref x0), (1, .int x1), (2, .int x2), (3, .int x3)]) dX8_days_169 4 rfl rfl (by decide) rfl ?_
  refine sm_goto 148 (pc := 172) dX8_days_172 rfl ?_
  refine sm_sub [1, 2, 3, 4, 0] rfl ?_
  exact h148 x0 x1 x2 x3 (x4 + 1) S166
set_option maxRecDepth 20000 in
set_option maxHeartbeats 4000000 in
theorem sL_X8_days_148 (Z : ZT) (rec39 : (Nat → Int32 → Int32 → Int32 → St → Option (Int32 × St))) (h39 : ∀ (x0 : Nat) (x1 : Int32) (x2 : Int32) (x3 : Int32)  (S : St), Sim eI Z rm_X8_days RX8 cX8_days 6 (some .int) 39 [(0, .ref x0), (1, .int x1), (2, .int x2), (3, .int x3)] [] S (rec39 x0 x1 x2 x3 S)) (n : Nat) : ∀ (x0 : Nat) (x1 : Int32) (x2 : Int32) (x3 : Int32) (x4 : Int32)  (S : St), Sim eI Z rm_X8_days RX8 cX8_days 6 (some .int) 148 [(0, .ref x0), (1, .int x1), (2, .int x2), (3, .int x3), (4, .int x4)] [] S (L_X8_days_148 rec39 n x0 x1 x2 x3 x4 S) := by
  induction n with
  | zero => intros; exact sm_none
  | succ n ih => intro x0 x1 x2 x3 x4 S; exact sB_X8_days_148 Z rec39 h39 (L_X8_days_148 rec39 n) ih x0 x1 x2 x3 x4 S
set_option maxRecDepth 20000 in
set_option maxHeartbeats 4000000 in
theorem sB_X8_days_59 (Z : ZT) (rec39 : (Nat → Int32 → Int32 → Int32 → St → Option (Int32 × St))) (h39 : ∀ (x0 : Nat) (x1 : Int32) (x2 : Int32) (x3 : Int32)  (S : St), Sim eI Z rm_X8_days RX8 cX8_days 6 (some .int) 39 [(0, .ref x0), (1, .int x1), (2, .int x2), (3, .int x3)] [] S (rec39 x0 x1 x2 x3 S)) (rec59 : (Nat → Int32 → Int32 → Int32 → Int32 → St → Option (Int32 × St))) (h59 : ∀ (x0 : Nat) (x1 : Int32) (x2 : Int32) (x3 : Int32) (x4 : Int32)  (S : St), Sim eI Z rm_X8_days RX8 cX8_days 6 (some .int) 59 [(0, .ref x0), (1, .int x1), (2, .int x2), (3, .int x3), (4, .int x4)] [] S (rec59 x0 x1 x2 x3 x4 S)) (x0 : Nat) (x1 : Int32) (x2 : Int32) (x3 : Int32) (x4 : Int32)  (S : St) : Sim eI Z rm_X8_days RX8 cX8_days 6 (some .int) 59 [(0, .ref x0), (1, .int x1), (2, .int x2), (3, .int x3), (4, .int x4)] [] S (B_X8_days_59 rec39 rec59 x0 x1 x2 x3 x4 S) := by
  unfold B_X8_days_59
  refine sm_iload (pc := 59) dX8_days_59 4 rfl ?_
  refine sm_i2l (pc := 61) dX8_days_61 ?_
  refine sm_aload_n (pc := 62) dX8_days_62 rfl 0 rfl ?_
  refine sm_getR (pc := 63) dX8_days_63 fr_RX8_9 (by decide) rfl (fun v63 => ?_)
  refine sm_sipush (pc := 66) (2520 : Int32) dX8_days_66 (by decide) ?_
  refine sm_aJ (pc := 69) dX8_days_69 (fun v69 => ?_)
  refine sm_lcmp_ge 145 (pc := 70) dX8_days_70 dX8_days_71 rfl ?_ ?_
  · refine sm_iconst (pc := 145) (0 : Int32) dX8_days_145 (by decide) ?_
    refine sm_istore (pc := 146) (lv' := [(4, .int (0 : Int32)), (0, .ref x0), (1, .int x1), (2, .int x2), (3, .int x3)]) dX8_days_146 (by decide) rfl ?_
    refine sm_sub [1, 2, 3, 4, 0] rfl ?_
    exact sL_X8_days_148 Z rec39 h39 6000 x0 x1 x2 x3 (0 : Int32) S
  refine sm_aload_n (pc := 74) dX8_days_74 rfl 0 rfl ?_
  refine sm_iload (pc := 75) dX8_days_75 4 rfl ?_
  refine sm_bipush (pc := 77) (7 : Int32) dX8_days_77 (by decide) ?_
  refine sm_callVL (pc := 79) [.int x4, .int (7 : Int32)] (fun lq rq Sq hq => m_X8_at Z lq x0 x4 (7 : Int32) S hq) dX8_days_79 mi_X8_at ml_RX8_136 ⟨Nat.le_of_ble_eq_true rfl, Nat.le_of_ble_eq_true rfl, rfl, rfl⟩ rfl (by decide) rfl (Nat.le_of_ble_eq_true rfl) rfl (fun r79 S79 => ?_)
  refine sm_l2i (pc := 82) dX8_days_82 ?_
  refine sm_bdI (fun v83 => ?_)
  refine sm_istore (pc := 83) (lv' := [(5, .int v83), (0, .ref x0), (1, .int x1), (2, .int x2), (3, .int x3), (4, .int x4)]) dX8_days_83 (by decide) rfl ?_
  refine sm_iload (pc := 85) dX8_days_85 0 rfl ?_
  refine sm_i2l (pc := 87) dX8_days_87 ?_
  refine sm_aload_n (pc := 88) dX8_days_88 rfl 1 rfl ?_
  refine sm_iload (pc := 89) dX8_days_89 5 rfl ?_
  refine sm_iconst (pc := 91) (4 : Int32) dX8_days_91 (by decide) ?_
  refine sm_callVL (pc := 92) [.int x4, .int (4 : Int32)] (fun lq rq Sq hq => m_X8_at Z lq x0 x4 (4 : Int32) S79 hq) dX8_days_92 mi_X8_at ml_RX8_136 ⟨Nat.le_of_ble_eq_true rfl, Nat.le_of_ble_eq_true rfl, rfl, rfl⟩ rfl (by decide) rfl (Nat.le_of_ble_eq_true rfl) rfl (fun r92 S92 => ?_)
  refine sm_lcmp_ge 139 (pc := 95) dX8_days_95 dX8_days_96 rfl ?_ ?_
  · refine sm_sub [1, 2, 3, 4, 5] rfl ?_
    exact sJ_X8_days_139 Z rec39 h39 rec59 h59 x0 x1 x2 x3 x4 S92
  refine sm_aload_n (pc := 99) dX8_days_99 rfl 1 rfl ?_
  refine sm_iload (pc := 100) dX8_days_100 5 rfl ?_
  refine sm_iload (pc := 102) dX8_days_102 0 rfl ?_
  refine sm_iconst (pc := 104) (1 : Int32) dX8_days_104 (by decide) ?_
  refine sm_iadd (pc := 105) dX8_days_105 ?_
  refine sm_callVI (pc := 106) [.int x4, .int (v83 + (1 : Int32))] (fun lq rq Sq hq => m_X8_endOf Z lq x0 x4 (v83 + (1 : Int32)) S92 hq) dX8_days_106 mi_X8_endOf ml_RX8_143 ⟨Nat.le_of_ble_eq_true rfl, Nat.le_of_ble_eq_true rfl, rfl, rfl⟩ rfl (by decide) rfl (Nat.le_of_ble_eq_true rfl) rfl (fun r106 S106 => ?_)
  refine sm_i2l (pc := 109) dX8_days_109 ?_
  refine sm_aload_n (pc := 110) dX8_days_110 rfl 1 rfl ?_
  refine sm_getR (pc := 111) dX8_days_111 fr_RX8_9 (by decide) rfl (fun v111 => ?_)
  refine sm_sipush (pc := 114) (2521 : Int32) dX8_days_114 (by decide) ?_
  refine sm_aJ (pc := 117) dX8_days_117 (fun v117 => ?_)
  refine sm_lcmp_ne 139 (pc := 118) dX8_days_118 dX8_days_119 rfl ?_ ?_
  · refine sm_sub [1, 2, 3, 4, 5] rfl ?_
    exact sJ_X8_days_139 Z rec39 h39 rec59 h59 x0 x1 x2 x3 x4 S106
  refine sm_iload_n (pc := 122) dX8_days_122 rfl 3 rfl ?_
  refine sm_aload_n (pc := 123) dX8_days_123 rfl 1 rfl ?_
  refine sm_iload (pc := 124) dX8_days_124 5 rfl ?_
  refine sm_callVI (pc := 126) [.int x4] (fun lq rq Sq hq => m_X8_ends Z lq x0 x4 S106 hq) dX8_days_126 mi_X8_ends ml_RX8_181 ⟨Nat.le_of_ble_eq_true rfl, Nat.le_of_ble_eq_true rfl, rfl, rfl⟩ rfl (by decide) rfl (Nat.le_of_ble_eq_true rfl) rfl (fun r126 S126 => ?_)
  refine sm_if_eq 136 (pc := 129) dX8_days_129 rfl ?_ ?_
  · refine sm_iconst (pc := 136) (0 : Int32) dX8_days_136 (by decide) ?_
    refine sm_sub [1, 2, 4, 5] rfl ?_
    exact sJ_X8_days_137 Z rec39 h39 rec59 h59 x0 x1 x3 x4 (0 : Int32) x2 S126
  refine sm_iconst (pc := 132) (1 : Int32) dX8_days_132 (by decide) ?_
  refine sm_goto 137 (pc := 133) dX8_days_133 rfl ?_
  refine sm_sub [1, 2, 4, 5] rfl ?_
  exact sJ_X8_days_137 Z rec39 h39 rec59 h59 x0 x1 x3 x4 (1 : Int32) x2 S126
set_option maxRecDepth 20000 in
set_option maxHeartbeats 4000000 in
theorem sL_X8_days_59 (Z : ZT) (rec39 : (Nat → Int32 → Int32 → Int32 → St → Option (Int32 × St))) (h39 : ∀ (x0 : Nat) (x1 : Int32) (x2 : Int32) (x3 : Int32)  (S : St), Sim eI Z rm_X8_days RX8 cX8_days 6 (some .int) 39 [(0, .ref x0), (1, .int x1), (2, .int x2), (3, .int x3)] [] S (rec39 x0 x1 x2 x3 S)) (n : Nat) : ∀ (x0 : Nat) (x1 : Int32) (x2 : Int32) (x3 : Int32) (x4 : Int32)  (S : St), Sim eI Z rm_X8_days RX8 cX8_days 6 (some .int) 59 [(0, .ref x0), (1, .int x1), (2, .int x2), (3, .int x3), (4, .int x4)] [] S (L_X8_days_59 rec39 n x0 x1 x2 x3 x4 S) := by
  induction n with
  | zero => intros; exact sm_none
  | succ n ih => intro x0 x1 x2 x3 x4 S; exact sB_X8_days_59 Z rec39 h39 (L_X8_days_59 rec39 n) ih x0 x1 x2 x3 x4 S
set_option maxRecDepth 20000 in
set_option maxHeartbeats 4000000 in
theorem sB_X8_days_39 (Z : ZT) (rec39 : (Nat → Int32 → Int32 → Int32 → St → Option (Int32 × St))) (h39 : ∀ (x0 : Nat) (x1 : Int32) (x2 : Int32) (x3 : Int32)  (S : St), Sim eI Z rm_X8_days RX8 cX8_days 6 (some .int) 39 [(0, .ref x0), (1, .int x1), (2, .int x2), (3, .int x3)] [] S (rec39 x0 x1 x2 x3 S)) (x0 : Nat) (x1 : Int32) (x2 : Int32) (x3 : Int32)  (S : St) : Sim eI Z rm_X8_days RX8 cX8_days 6 (some .int) 39 [(0, .ref x0), (1, .int x1), (2, .int x2), (3, .int x3)] [] S (B_X8_days_39 rec39 x0 x1 x2 x3 S) := by
  unfold B_X8_days_39
  refine sm_iload_n (pc := 39) dX8_days_39 rfl 3 rfl ?_
  refine sm_iload_n (pc := 40) dX8_days_40 rfl 1 rfl ?_
  refine sm_icmp_ge 181 (pc := 41) dX8_days_41 rfl ?_ ?_
  · refine sm_iload_n (pc := 181) dX8_days_181 rfl 2 rfl ?_
    exact sm_retI (pc := 182) dX8_days_182
  refine sm_aload_n (pc := 44) dX8_days_44 rfl 0 rfl ?_
  refine sm_getR (pc := 45) dX8_days_45 fr_RX8_9 (by decide) rfl (fun v45 => ?_)
  refine sm_sipush (pc := 48) (2521 : Int32) dX8_days_48 (by decide) ?_
  refine sm_dup2_11 (pc := 51) dX8_days_51 rfl rfl ?_
  refine sm_aJ (pc := 52) dX8_days_52 (fun v52 => ?_)
  refine sm_lconst (pc := 53) (1 : Int64) dX8_days_53 (by decide) ?_
  refine sm_ladd (pc := 54) dX8_days_54 ?_
  refine sm_sJ (pc := 55) dX8_days_55 (fun S55 => ?_)
  refine sm_iconst (pc := 56) (0 : Int32) dX8_days_56 (by decide) ?_
  refine sm_istore (pc := 57) (lv' := [(4, .int (0 : Int32)), (0, .ref x0), (1, .int x1), (2, .int x2), (3, .int x3)]) dX8_days_57 (by decide) rfl ?_
  refine sm_sub [1, 2, 3, 4, 0] rfl ?_
  exact sL_X8_days_59 Z rec39 h39 6000 x0 x1 x2 x3 (0 : Int32) S55
set_option maxRecDepth 20000 in
set_option maxHeartbeats 4000000 in
theorem sL_X8_days_39 (Z : ZT)  (n : Nat) : ∀ (x0 : Nat) (x1 : Int32) (x2 : Int32) (x3 : Int32)  (S : St), Sim eI Z rm_X8_days RX8 cX8_days 6 (some .int) 39 [(0, .ref x0), (1, .int x1), (2, .int x2), (3, .int x3)] [] S (L_X8_days_39  n x0 x1 x2 x3 S) := by
  induction n with
  | zero => intros; exact sm_none
  | succ n ih => intro x0 x1 x2 x3 S; exact sB_X8_days_39 Z  (L_X8_days_39  n) ih x0 x1 x2 x3 S
set_option maxRecDepth 20000 in
set_option maxHeartbeats 4000000 in
theorem s_X8_days (Z : ZT) (c : Nat) (a1 : Int32) (S : St) : Sim eI Z rm_X8_days RX8 cX8_days 6 (some .int) 0 [(0, .ref c), (1, .int a1)] [] S (F_X8_days c a1 S) := by
  unfold F_X8_days
  refine sm_iload_n (pc := 0) dX8_days_0 rfl 1 rfl ?_
  refine sm_i2l (pc := 1) dX8_days_1 ?_
  refine sm_lconst (pc := 2) (1 : Int64) dX8_days_2 (by decide) ?_
  refine sm_ldc2 (pc := 3) (4000 : Int64) dX8_days_3 kc_RX8_179 ?_
  refine sm_callSI (pc := 6) [.long (Int32.toInt64 a1), .long (1 : Int64), .long (4000 : Int64)] (fun lq rq Sq hq => m_X8_in Z lq (Int32.toInt64 a1) (1 : Int64) (4000 : Int64) S hq) dX8_days_6 mi_X8_in ml_RX8_85 ⟨Nat.le_of_ble_eq_true rfl, Nat.le_of_ble_eq_true rfl, rfl, rfl⟩ rfl (Nat.le_of_ble_eq_true rfl) rfl (fun r6 S6 => ?_)
  refine sm_if_ne 14 (pc := 9) dX8_days_9 rfl ?_ ?_
  · refine sm_aload_n (pc := 14) dX8_days_14 rfl 0 rfl ?_
    refine sm_getR (pc := 15) dX8_days_15 fr_RX8_9 (by decide) rfl (fun v15 => ?_)
    refine sm_sipush (pc := 18) (2521 : Int32) dX8_days_18 (by decide) ?_
    refine sm_aJ (pc := 21) dX8_days_21 (fun v21 => ?_)
    refine sm_iload_n (pc := 22) dX8_days_22 rfl 1 rfl ?_
    refine sm_i2l (pc := 23) dX8_days_23 ?_
    refine sm_ladd (pc := 24) dX8_days_24 ?_
    refine sm_ldc2 (pc := 25) (36524 : Int64) dX8_days_25 kc_RX8_83 ?_
    refine sm_lcmp_le 35 (pc := 28) dX8_days_28 dX8_days_29 rfl ?_ ?_
    · refine sm_iconst (pc := 35) (0 : Int32) dX8_days_35 (by decide) ?_
      refine sm_istore_n (pc := 36) (lv' := [(2, .int (0 : Int32)), (0, .ref c), (1, .int a1)]) dX8_days_36 rfl (by decide) rfl ?_
      refine sm_iconst (pc := 37) (0 : Int32) dX8_days_37 (by decide) ?_
      refine sm_istore_n (pc := 38) (lv' := [(3, .int (0 : Int32)), (2, .int (0 : Int32)), (0, .ref c), (1, .int a1)]) dX8_days_38 rfl (by decide) rfl ?_
      refine sm_sub [2, 3, 1, 0] rfl ?_
      exact sL_X8_days_39 Z  6000 c a1 (0 : Int32) (0 : Int32) S6
    refine sm_bipush (pc := 32) (-5 : Int32) dX8_days_32 (by decide) ?_
    exact sm_retI (pc := 34) dX8_days_34
  refine sm_iconst (pc := 12) (-1 : Int32) dX8_days_12 (by decide) ?_
  exact sm_retI (pc := 13) dX8_days_13
set_option maxRecDepth 20000 in
set_option maxHeartbeats 4000000 in
theorem m_X8_days (Z : ZT) (l : Launch) (c : Nat) (a1 : Int32) (S : St) {r : Int32} {S' : St} (h : F_X8_days c a1 S = some (r, S')) : MetX Z l yX8_days cX8_days 6 (some .int) rm_X8_days [.ref c, .int a1] S (eI r) S' := Sim.met (by decide +kernel) rfl (Nat.le_of_ble_eq_true rfl) (s_X8_days Z c a1 S) l h
set_option maxRecDepth 20000 in
set_option maxHeartbeats 4000000 in
theorem sJ_X8_paidOff_21 (Z : ZT)  (x0 : Nat) (x1 : Int32) (x2 : Int32) (t0 : Int64) (S : St) : Sim eL Z rm_X8_paidOff RX8 cX8_paidOff 7 (some .long) 21 [(0, .ref x0), (1, .int x1), (2, .int x2)] [.long t0] S (J_X8_paidOff_21  x0 x1 x2 t0 S) := by
  unfold J_X8_paidOff_21
  refine sm_lstore (pc := 21) (lv' := [(5, .long t0), (0, .ref x0), (1, .int x1), (2, .int x2)]) dX8_paidOff_21 (by decide) rfl ?_
  refine sm_aload_n (pc := 23) dX8_paidOff_23 rfl 1 rfl ?_
  refine sm_iload_n (pc := 24) dX8_paidOff_24 rfl 2 rfl ?_
  refine sm_iload_n (pc := 25) dX8_paidOff_25 rfl 3 rfl ?_
  refine sm_aload_n (pc := 26) dX8_paidOff_26 rfl 1 rfl ?_
  refine sm_iload_n (pc := 27) dX8_paidOff_27 rfl 2 rfl ?_
  refine sm_iload_n (pc := 28) dX8_paidOff_28 rfl 3 rfl ?_
  refine sm_callVL (pc := 29) [.int x1, .int x2] (fun lq rq Sq hq => m_X8_at Z lq x0 x1 x2 S hq) dX8_paidOff_29 mi_X8_at ml_RX8_136 ⟨Nat.le_of_ble_eq_true rfl, Nat.le_of_ble_eq_true rfl, rfl, rfl⟩ rfl (by decide) rfl (Nat.le_of_ble_eq_true rfl) rfl (fun r29 S29 => ?_)
  refine sm_lload (pc := 32) dX8_paidOff_32 0 rfl ?_
  refine sm_lsub (pc := 34) dX8_paidOff_34 ?_
  refine sm_callVV (pc := 35) [.int x1, .int x2, .long (r29 - t0)] (fun lq rq Sq hq => m_X8_sets Z lq x0 x1 x2 (r29 - t0) S29 hq) dX8_paidOff_35 mi_X8_sets ml_RX8_160 ⟨Nat.le_of_ble_eq_true rfl, Nat.le_of_ble_eq_true rfl, rfl, rfl⟩ rfl (by decide) rfl (Nat.le_of_ble_eq_true rfl) rfl (fun _ S35 => ?_)
  refine sm_lload (pc := 38) dX8_paidOff_38 0 rfl ?_
  exact sm_retL (pc := 40) dX8_paidOff_40
set_option maxRecDepth 20000 in
set_option maxHeartbeats 4000000 in
theorem s_X8_paidOff (Z : ZT) (c : Nat) (a1 : Int32) (a2 : Int32) (a3 : Int64) (S : St) : Sim eL Z rm_X8_paidOff RX8 cX8_paidOff 7 (some .long) 0 [(0, .ref c), (1, .int a1), (2, .int a2), (3, .long a3)] [] S (F_X8_paidOff c a1 a2 a3 S) := by
  unfold F_X8_paidOff
  refine sm_aload_n (pc := 0) dX8_paidOff_0 rfl 0 rfl ?_
  refine sm_iload_n (pc := 1) dX8_paidOff_1 rfl 1 rfl ?_
  refine sm_iload_n (pc := 2) dX8_paidOff_2 rfl 2 rfl ?_
  refine sm_callVL (pc := 3) [.int a1, .int a2] (fun lq rq Sq hq => m_X8_at Z lq c a1 a2 S hq) dX8_paidOff_3 mi_X8_at ml_RX8_136 ⟨Nat.le_of_ble_eq_true rfl, Nat.le_of_ble_eq_true rfl, rfl, rfl⟩ rfl (by decide) rfl (Nat.le_of_ble_eq_true rfl) rfl (fun r3 S3 => ?_)
  refine sm_lload_n (pc := 6) dX8_paidOff_6 rfl 3 rfl ?_
  refine sm_lcmp_ge 20 (pc := 7) dX8_paidOff_7 dX8_paidOff_8 rfl ?_ ?_
  · refine sm_lload_n (pc := 20) dX8_paidOff_20 rfl 3 rfl ?_
    refine sm_sub [0, 1, 2] rfl ?_
    exact sJ_X8_paidOff_21 Z  c a1 a2 a3 S3
  refine sm_aload_n (pc := 11) dX8_paidOff_11 rfl 0 rfl ?_
  refine sm_iload_n (pc := 12) dX8_paidOff_12 rfl 1 rfl ?_
  refine sm_iload_n (pc := 13) dX8_paidOff_13 rfl 2 rfl ?_
  refine sm_callVL (pc := 14) [.int a1, .int a2] (fun lq rq Sq hq => m_X8_at Z lq c a1 a2 S3 hq) dX8_paidOff_14 mi_X8_at ml_RX8_136 ⟨Nat.le_of_ble_eq_true rfl, Nat.le_of_ble_eq_true rfl, rfl, rfl⟩ rfl (by decide) rfl (Nat.le_of_ble_eq_true rfl) rfl (fun r14 S14 => ?_)
  refine sm_goto 21 (pc := 17) dX8_paidOff_17 rfl ?_
  refine sm_sub [0, 1, 2] rfl ?_
  exact sJ_X8_paidOff_21 Z  c a1 a2 r14 S14
set_option maxRecDepth 20000 in
set_option maxHeartbeats 4000000 in
theorem m_X8_paidOff (Z : ZT) (l : Launch) (c : Nat) (a1 : Int32) (a2 : Int32) (a3 : Int64) (S : St) {r : Int64} {S' : St} (h : F_X8_paidOff c a1 a2 a3 S = some (r, S')) : MetX Z l yX8_paidOff cX8_paidOff 7 (some .long) rm_X8_paidOff [.ref c, .int a1, .int a2, .long a3] S (eL r) S' := Sim.met (by decide +kernel) rfl (Nat.le_of_ble_eq_true rfl) (s_X8_paidOff Z c a1 a2 a3 S) l h
