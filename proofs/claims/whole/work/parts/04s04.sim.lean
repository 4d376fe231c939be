set_option maxRecDepth 20000 in
set_option maxHeartbeats 4000000 in
theorem s_X7_image (Z : ZT) (c : Nat) (S : St) : Sim eI Z rm_X7_image RX7 cX7_image 1 (some .int) 0 [(0, .ref c)] [] S (F_X7_image c S) := by
  unfold F_X7_image
  refine sm_aload_n (pc := 0) dX7_image_0 rfl 0 rfl ?_
  refine sm_getR (pc := 1) dX7_image_1 fr_RX7_19 (by decide) rfl (fun v1 => ?_)
  refine sm_aload_n (pc := 4) dX7_image_4 rfl 0 rfl ?_
  refine sm_getR (pc := 5) dX7_image_5 fr_RX7_10 (by decide) rfl (fun v5 => ?_)
  refine sm_callVV (pc := 8) [.ref v5] (fun lq rq Sq hq => m_X1_copyFrom Z lq v1 v5 S hq) dX7_image_8 mi_X1_copyFrom ml_RX7_287 ⟨Nat.le_of_ble_eq_true rfl, Nat.le_of_ble_eq_true rfl, rfl, rfl⟩ rfl (by decide) rfl (Nat.le_of_ble_eq_true rfl) rfl (fun _ S8 => ?_)
  refine sm_aload_n (pc := 11) dX7_image_11 rfl 0 rfl ?_
  refine sm_iconst (pc := 12) (1 : Int32) dX7_image_12 (by decide) ?_
  refine sm_putZ (pc := 13) dX7_image_13 fw_RX7_22 (by decide) rfl (fun S13 => ?_)
  refine sm_aload_n (pc := 16) dX7_image_16 rfl 0 rfl ?_
  refine sm_getR (pc := 17) dX7_image_17 fr_RX7_10 (by decide) rfl (fun v17 => ?_)
  refine sm_getI (pc := 20) dX7_image_20 fr_RX7_93 (by decide) rfl (fun v20 => ?_)
  exact sm_retI (pc := 23) dX7_image_23
set_option maxRecDepth 20000 in
set_option maxHeartbeats 4000000 in
theorem m_X7_image (Z : ZT) (l : Launch) (c : Nat) (S : St) {r : Int32} {S' : St} (h : F_X7_image c S = some (r, S')) : MetX Z l yX7_image cX7_image 1 (some .int) rm_X7_image [.ref c] S (eI r) S' := Sim.met (by decide +kernel) rfl (Nat.le_of_ble_eq_true rfl) (s_X7_image Z c S) l h
set_option maxRecDepth 20000 in
set_option maxHeartbeats 4000000 in
theorem sJ_X7_back_71 (Z : ZT) (rec23 : (Nat → Int32 → St → Option (Int32 × St))) (h23 : ∀ (x0 : Nat) (x1 : Int32)  (S : St), Sim eI Z rm_X7_back RX7 cX7_back 2 (some .int) 23 [(0, .ref x0), (1, .int x1)] [] S (rec23 x0 x1 S)) (x0 : Nat) (x1 : Int32)  (S : St) : Sim eI Z rm_X7_back RX7 cX7_back 2 (some .int) 71 [(0, .ref x0), (1, .int x1)] [] S (J_X7_back_71 rec23 x0 x1 S) := by
  unfold J_X7_back_71
  refine sm_iinc (pc := 71) (x1 + 1) (lv' := [(1, .int (x1 + 1)), (0, .ref x0)]) dX7_back_71 1 rfl rfl (by decide) rfl ?_
  refine sm_goto 23 (pc := 74) dX7_back_74 rfl ?_
  refine sm_sub [1, 0] rfl ?_
  exact h23 x0 (x1 + 1) S
set_option maxRecDepth 20000 in
set_option maxHeartbeats 4000000 in
theorem sB_X7_back_23 (Z : ZT) (rec23 : (Nat → Int32 → St → Option (Int32 × St))) (h23 : ∀ (x0 : Nat) (x1 : Int32)  (S : St), Sim eI Z rm_X7_back RX7 cX7_back 2 (some .int) 23 [(0, .ref x0), (1, .int x1)] [] S (rec23 x0 x1 S)) (x0 : Nat) (x1 : Int32)  (S : St) : Sim eI Z rm_X7_back RX7 cX7_back 2 (some .int) 23 [(0, .ref x0), (1, .int x1)] [] S (B_X7_back_23 rec23 x0 x1 S) := by
  unfold B_X7_back_23
  refine sm_iload_n (pc := 23) dX7_back_23 rfl 1 rfl ?_
  refine sm_bipush (pc := 24) (6 : Int32) dX7_back_24 (by decide) ?_
  refine sm_icmp_ge 77 (pc := 26) dX7_back_26 rfl ?_ ?_
  · refine sm_aload_n (pc := 77) dX7_back_77 rfl 0 rfl ?_
    refine sm_getR (pc := 78) dX7_back_78 fr_RX7_10 (by decide) rfl (fun v78 => ?_)
    refine sm_getI (pc := 81) dX7_back_81 fr_RX7_93 (by decide) rfl (fun v81 => ?_)
    exact sm_retI (pc := 84) dX7_back_84
  refine sm_aload_n (pc := 29) dX7_back_29 rfl 0 rfl ?_
  refine sm_getR (pc := 30) dX7_back_30 fr_RX7_49 (by decide) rfl (fun v30 => ?_)
  refine sm_iload_n (pc := 33) dX7_back_33 rfl 1 rfl ?_
  refine sm_aR (pc := 34) dX7_back_34 (by decide) (fun v34 => ?_)
  refine sm_getI (pc := 35) dX7_back_35 fr_RX7_271 (by decide) rfl (fun v35 => ?_)
  refine sm_iconst (pc := 38) (1 : Int32) dX7_back_38 (by decide) ?_
  refine sm_icmp_ne 71 (pc := 39) dX7_back_39 rfl ?_ ?_
  · refine sm_sub [0, 1] rfl ?_
    exact sJ_X7_back_71 Z rec23 h23 x0 x1 S
  refine sm_aload_n (pc := 42) dX7_back_42 rfl 0 rfl ?_
  refine sm_getR (pc := 43) dX7_back_43 fr_RX7_10 (by decide) rfl (fun v43 => ?_)
  refine sm_aload_n (pc := 46) dX7_back_46 rfl 0 rfl ?_
  refine sm_getR (pc := 47) dX7_back_47 fr_RX7_49 (by decide) rfl (fun v47 => ?_)
  refine sm_iload_n (pc := 50) dX7_back_50 rfl 1 rfl ?_
  refine sm_aR (pc := 51) dX7_back_51 (by decide) (fun v51 => ?_)
  refine sm_getI (pc := 52) dX7_back_52 fr_RX7_299 (by decide) rfl (fun v52 => ?_)
  refine sm_callVI (pc := 55) [.int v52] (fun lq rq Sq hq => m_X1_has Z lq v43 v52 S hq) dX7_back_55 mi_X1_has ml_RX7_101 ⟨Nat.le_of_ble_eq_true rfl, Nat.le_of_ble_eq_true rfl, rfl, rfl⟩ rfl (by decide) rfl (Nat.le_of_ble_eq_true rfl) rfl (fun r55 S55 => ?_)
  refine sm_if_ne 71 (pc := 58) dX7_back_58 rfl ?_ ?_
  · refine sm_sub [0, 1] rfl ?_
    exact sJ_X7_back_71 Z rec23 h23 x0 x1 S55
  refine sm_aload_n (pc := 61) dX7_back_61 rfl 0 rfl ?_
  refine sm_getR (pc := 62) dX7_back_62 fr_RX7_49 (by decide) rfl (fun v62 => ?_)
  refine sm_iload_n (pc := 65) dX7_back_65 rfl 1 rfl ?_
  refine sm_aR (pc := 66) dX7_back_66 (by decide) (fun v66 => ?_)
  refine sm_iconst (pc := 67) (0 : Int32) dX7_back_67 (by decide) ?_
  refine sm_putI (pc := 68) dX7_back_68 fw_RX7_271 (by decide) rfl (fun S68 => ?_)
  refine sm_sub [0, 1] rfl ?_
  exact sJ_X7_back_71 Z rec23 h23 x0 x1 S68
set_option maxRecDepth 20000 in
set_option maxHeartbeats 4000000 in
theorem sL_X7_back_23 (Z : ZT)  (n : Nat) : ∀ (x0 : Nat) (x1 : Int32)  (S : St), Sim eI Z rm_X7_back RX7 cX7_back 2 (some .int) 23 [(0, .ref x0), (1, .int x1)] [] S (L_X7_back_23  n x0 x1 S) := by
  induction n with
  | zero => intros; exact sm_none
  | succ n ih => intro x0 x1 S; exact sB_X7_back_23 Z  (L_X7_back_23  n) ih x0 x1 S
set_option maxRecDepth 20000 in
set_option maxHeartbeats 4000000 in
theorem s_X7_back (Z : ZT) (c : Nat) (S : St) : Sim eI Z rm_X7_back RX7 cX7_back 2 (some .int) 0 [(0, .ref c)] [] S (F_X7_back c S) := by
  unfold F_X7_back
  refine sm_aload_n (pc := 0) dX7_back_0 rfl 0 rfl ?_
  refine sm_getI (pc := 1) dX7_back_1 fr_RX7_22 (by decide) rfl (fun v1 => ?_)
  refine sm_if_ne 10 (pc := 4) dX7_back_4 rfl ?_ ?_
  · refine sm_aload_n (pc := 10) dX7_back_10 rfl 0 rfl ?_
    refine sm_getR (pc := 11) dX7_back_11 fr_RX7_10 (by decide) rfl (fun v11 => ?_)
    refine sm_aload_n (pc := 14) dX7_back_14 rfl 0 rfl ?_
    refine sm_getR (pc := 15) dX7_back_15 fr_RX7_19 (by decide) rfl (fun v15 => ?_)
    refine sm_callVV (pc := 18) [.ref v15] (fun lq rq Sq hq => m_X1_copyFrom Z lq v11 v15 S hq) dX7_back_18 mi_X1_copyFrom ml_RX7_287 ⟨Nat.le_of_ble_eq_true rfl, Nat.le_of_ble_eq_true rfl, rfl, rfl⟩ rfl (by decide) rfl (Nat.le_of_ble_eq_true rfl) rfl (fun _ S18 => ?_)
    refine sm_iconst (pc := 21) (0 : Int32) dX7_back_21 (by decide) ?_
    refine sm_istore_n (pc := 22) (lv' := [(1, .int (0 : Int32)), (0, .ref c)]) dX7_back_22 rfl (by decide) rfl ?_
    refine sm_sub [1, 0] rfl ?_
    exact sL_X7_back_23 Z  6000 c (0 : Int32) S18
  refine sm_bipush (pc := 7) (-5 : Int32) dX7_back_7 (by decide) ?_
  exact sm_retI (pc := 9) dX7_back_9
set_option maxRecDepth 20000 in
set_option maxHeartbeats 4000000 in
theorem m_X7_back (Z : ZT) (l : Launch) (c : Nat) (S : St) {r : Int32} {S' : St} (h : F_X7_back c S = some (r, S')) : MetX Z l yX7_back cX7_back 2 (some .int) rm_X7_back [.ref c] S (eI r) S' := Sim.met (by decide +kernel) rfl (Nat.le_of_ble_eq_true rfl) (s_X7_back Z c S) l h
set_option maxRecDepth 20000 in
set_option maxHeartbeats 4000000 in
theorem sJ_X7_hold_23 (Z : ZT)    (S : St) : Sim eI Z rm_X7_hold RX7 cX7_hold 6 (some .int) 23 [] [] S (J_X7_hold_23  S) := by
  unfold J_X7_hold_23
  refine sm_iconst (pc := 23) (-1 : Int32) dX7_hold_23 (by decide) ?_
  exact sm_retI (pc := 24) dX7_hold_24
set_option maxRecDepth 20000 in
set_option maxHeartbeats 4000000 in
theorem s_X7_hold (Z : ZT) (c : Nat) (a1 : Int32) (a2 : Int32) (a3 : Int32) (S : St) : Sim eI Z rm_X7_hold RX7 cX7_hold 6 (some .int) 0 [(0, .ref c), (1, .int a1), (2, .int a2), (3, .int a3)] [] S (F_X7_hold c a1 a2 a3 S) := by
  unfold F_X7_hold
  refine sm_iload_n (pc := 0) dX7_hold_0 rfl 1 rfl ?_
  refine sm_callSI (pc := 1) [.int a1] (fun lq rq Sq hq => m_X7_isHolder Z lq a1 S hq) dX7_hold_1 mi_X7_isHolder ml_RX7_268 ⟨Nat.le_of_ble_eq_true rfl, Nat.le_of_ble_eq_true rfl, rfl, rfl⟩ rfl (Nat.le_of_ble_eq_true rfl) rfl (fun r1 S1 => ?_)
  refine sm_if_eq 23 (pc := 4) dX7_hold_4 rfl ?_ ?_
  · refine sm_sub [] rfl ?_
    exact sJ_X7_hold_23 Z  S1
  refine sm_aload_n (pc := 7) dX7_hold_7 rfl 0 rfl ?_
  refine sm_getR (pc := 8) dX7_hold_8 fr_RX7_10 (by decide) rfl (fun v8 => ?_)
  refine sm_iload_n (pc := 11) dX7_hold_11 rfl 2 rfl ?_
  refine sm_callVI (pc := 12) [.int a2] (fun lq rq Sq hq => m_X1_has Z lq v8 a2 S1 hq) dX7_hold_12 mi_X1_has ml_RX7_101 ⟨Nat.le_of_ble_eq_true rfl, Nat.le_of_ble_eq_true rfl, rfl, rfl⟩ rfl (by decide) rfl (Nat.le_of_ble_eq_true rfl) rfl (fun r12 S12 => ?_)
  refine sm_if_eq 23 (pc := 15) dX7_hold_15 rfl ?_ ?_
  · refine sm_sub [] rfl ?_
    exact sJ_X7_hold_23 Z  S12
  refine sm_iload_n (pc := 18) dX7_hold_18 rfl 3 rfl ?_
  refine sm_iconst (pc := 19) (-1 : Int32) dX7_hold_19 (by decide) ?_
  refine sm_icmp_ge 25 (pc := 20) dX7_hold_20 rfl ?_ ?_
  · refine sm_iload_n (pc := 25) dX7_hold_25 rfl 3 rfl ?_
    refine sm_iconst (pc := 26) (-1 : Int32) dX7_hold_26 (by decide) ?_
    refine sm_icmp_ne 42 (pc := 27) dX7_hold_27 rfl ?_ ?_
    · refine sm_aload_n (pc := 42) dX7_hold_42 rfl 0 rfl ?_
      refine sm_getR (pc := 43) dX7_hold_43 fr_RX7_10 (by decide) rfl (fun v43 => ?_)
      refine sm_getR (pc := 46) dX7_hold_46 fr_RX7_108 (by decide) rfl (fun v46 => ?_)
      refine sm_iload_n (pc := 49) dX7_hold_49 rfl 2 rfl ?_
      refine sm_aR (pc := 50) dX7_hold_50 (by decide) (fun v50 => ?_)
      refine sm_astore (pc := 51) (lv' := [(4, .ref v50), (0, .ref c), (1, .int a1), (2, .int a2), (3, .int a3)]) dX7_hold_51 (by decide) rfl ?_
      refine sm_aload (pc := 53) dX7_hold_53 0 rfl ?_
      refine sm_iload_n (pc := 55) dX7_hold_55 rfl 4 rfl ?_
      refine sm_callVI (pc := 56) [.int a3] (fun lq rq Sq hq => m_X4_periodOfBill Z lq v50 a3 S12 hq) dX7_hold_56 mi_X4_periodOfBill ml_RX7_196 ⟨Nat.le_of_ble_eq_true rfl, Nat.le_of_ble_eq_true rfl, rfl, rfl⟩ rfl (by decide) rfl (Nat.le_of_ble_eq_true rfl) rfl (fun r56 S56 => ?_)
      refine sm_istore (pc := 59) (lv' := [(5, .int r56), (4, .ref v50), (0, .ref c), (1, .int a1), (2, .int a2), (3, .int a3)]) dX7_hold_59 (by decide) rfl ?_
      refine sm_iload (pc := 61) dX7_hold_61 0 rfl ?_
      refine sm_if_ne 69 (pc := 63) dX7_hold_63 rfl ?_ ?_
      · refine sm_aload_n (pc := 69) dX7_hold_69 rfl 2 rfl ?_
        refine sm_getR (pc := 70) dX7_hold_70 fr_RX7_49 (by decide) rfl (fun v70 => ?_)
        refine sm_iload_n (pc := 73) dX7_hold_73 rfl 3 rfl ?_
        refine sm_aR (pc := 74) dX7_hold_74 (by decide) (fun v74 => ?_)
        refine sm_aload (pc := 75) dX7_hold_75 1 rfl ?_
        refine sm_getR (pc := 77) dX7_hold_77 fr_RX7_154 (by decide) rfl (fun v77 => ?_)
        refine sm_iload (pc := 80) dX7_hold_80 0 rfl ?_
        refine sm_aI (pc := 82) dX7_hold_82 (fun v82 => ?_)
        refine sm_aload (pc := 83) dX7_hold_83 1 rfl ?_
        refine sm_iload (pc := 85) dX7_hold_85 0 rfl ?_
        refine sm_callVL (pc := 87) [.int r56] (fun lq rq Sq hq => m_X4_asks Z lq v50 r56 S56 hq) dX7_hold_87 mi_X4_asks ml_RX7_306 ⟨Nat.le_of_ble_eq_true rfl, Nat.le_of_ble_eq_true rfl, rfl, rfl⟩ rfl (by decide) rfl (Nat.le_of_ble_eq_true rfl) rfl (fun r87 S87 => ?_)
        refine sm_callVV (pc := 90) [.int v82, .long r87] (fun lq rq Sq hq => m_X3_takeBill Z lq v74 v82 r87 S87 hq) dX7_hold_90 mi_X3_takeBill ml_RX7_310 ⟨Nat.le_of_ble_eq_true rfl, Nat.le_of_ble_eq_true rfl, rfl, rfl⟩ rfl (by decide) rfl (Nat.le_of_ble_eq_true rfl) rfl (fun _ S90 => ?_)
        refine sm_iconst (pc := 93) (1 : Int32) dX7_hold_93 (by decide) ?_
        exact sm_retI (pc := 94) dX7_hold_94
      refine sm_bipush (pc := 66) (-2 : Int32) dX7_hold_66 (by decide) ?_
      exact sm_retI (pc := 68) dX7_hold_68
    refine sm_aload_n (pc := 30) dX7_hold_30 rfl 0 rfl ?_
    refine sm_getR (pc := 31) dX7_hold_31 fr_RX7_49 (by decide) rfl (fun v31 => ?_)
    refine sm_iload_n (pc := 34) dX7_hold_34 rfl 1 rfl ?_
    refine sm_aR (pc := 35) dX7_hold_35 (by decide) (fun v35 => ?_)
    refine sm_iload_n (pc := 36) dX7_hold_36 rfl 2 rfl ?_
    refine sm_callVV (pc := 37) [.int a2] (fun lq rq Sq hq => m_X3_takeLoan Z lq v35 a2 S12 hq) dX7_hold_37 mi_X3_takeLoan ml_RX7_302 ⟨Nat.le_of_ble_eq_true rfl, Nat.le_of_ble_eq_true rfl, rfl, rfl⟩ rfl (by decide) rfl (Nat.le_of_ble_eq_true rfl) rfl (fun _ S37 => ?_)
    refine sm_iconst (pc := 40) (1 : Int32) dX7_hold_40 (by decide) ?_
    exact sm_retI (pc := 41) dX7_hold_41
  refine sm_sub [] rfl ?_
  exact sJ_X7_hold_23 Z  S12
set_option maxRecDepth 20000 in
set_option maxHeartbeats 4000000 in
theorem m_X7_hold (Z : ZT) (l : Launch) (c : Nat) (a1 : Int32) (a2 : Int32) (a3 : Int32) (S : St) {r : Int32} {S' : St} (h : F_X7_hold c a1 a2 a3 S = some (r, S')) : MetX Z l yX7_hold cX7_hold 6 (some .int) rm_X7_hold [.ref c, .int a1, .int a2, .int a3] S (eI r) S' := Sim.met (by decide +kernel) rfl (Nat.le_of_ble_eq_true rfl) (s_X7_hold Z c a1 a2 a3 S) l h
set_option maxRecDepth 20000 in
set_option maxHeartbeats 4000000 in
theorem sJ_X7_row_13 (Z : ZT)    (S : St) : Sim eI Z rm_X7_row RX7 cX7_row 3 (some .int) 13 [] [] S (J_X7_row_13  S) := by
  unfold J_X7_row_13
  refine sm_iconst (pc := 13) (-1 : Int32) dX7_row_13 (by decide) ?_
  exact sm_retI (pc := 14) dX7_row_14
set_option maxRecDepth 20000 in
set_option maxHeartbeats 4000000 in
theorem sJ_X7_row_51 (Z : ZT)    (S : St) : Sim eI Z rm_X7_row RX7 cX7_row 3 (some .int) 51 [] [] S (J_X7_row_51  S) := by
  unfold J_X7_row_51
  refine sm_iconst (pc := 51) (1 : Int32) dX7_row_51 (by decide) ?_
  exact sm_retI (pc := 52) dX7_row_52
set_option maxRecDepth 20000 in
set_option maxHeartbeats 4000000 in
theorem s_X7_row (Z : ZT) (c : Nat) (a1 : Int32) (a2 : Int32) (S : St) : Sim eI Z rm_X7_row RX7 cX7_row 3 (some .int) 0 [(0, .ref c), (1, .int a1), (2, .int a2)] [] S (F_X7_row c a1 a2 S) := by
  unfold F_X7_row
  refine sm_iload_n (pc := 0) dX7_row_0 rfl 1 rfl ?_
  refine sm_callSI (pc := 1) [.int a1] (fun lq rq Sq hq => m_X7_isHolder Z lq a1 S hq) dX7_row_1 mi_X7_isHolder ml_RX7_268 ⟨Nat.le_of_ble_eq_true rfl, Nat.le_of_ble_eq_true rfl, rfl, rfl⟩ rfl (Nat.le_of_ble_eq_true rfl) rfl (fun r1 S1 => ?_)
  refine sm_if_eq 13 (pc := 4) dX7_row_4 rfl ?_ ?_
  · refine sm_sub [] rfl ?_
    exact sJ_X7_row_13 Z  S1
  refine sm_iload_n (pc := 7) dX7_row_7 rfl 2 rfl ?_
  refine sm_bipush (pc := 8) (60 : Int32) dX7_row_8 (by decide) ?_
  refine sm_icmp_le 15 (pc := 10) dX7_row_10 rfl ?_ ?_
  · refine sm_iload_n (pc := 15) dX7_row_15 rfl 2 rfl ?_
    refine sm_iconst (pc := 16) (-1 : Int32) dX7_row_16 (by decide) ?_
    refine sm_icmp_ge 23 (pc := 17) dX7_row_17 rfl ?_ ?_
    · refine sm_iload_n (pc := 23) dX7_row_23 rfl 2 rfl ?_
      refine sm_iconst (pc := 24) (-1 : Int32) dX7_row_24 (by decide) ?_
      refine sm_icmp_ne 41 (pc := 25) dX7_row_25 rfl ?_ ?_
      · refine sm_aload_n (pc := 41) dX7_row_41 rfl 0 rfl ?_
        refine sm_getR (pc := 42) dX7_row_42 fr_RX7_49 (by decide) rfl (fun v42 => ?_)
        refine sm_iload_n (pc := 45) dX7_row_45 rfl 1 rfl ?_
        refine sm_aR (pc := 46) dX7_row_46 (by decide) (fun v46 => ?_)
        refine sm_iload_n (pc := 47) dX7_row_47 rfl 2 rfl ?_
        refine sm_callVV (pc := 48) [.int a2] (fun lq rq Sq hq => m_X3_takeRow Z lq v46 a2 S1 hq) dX7_row_48 mi_X3_takeRow ml_RX7_314 ⟨Nat.le_of_ble_eq_true rfl, Nat.le_of_ble_eq_true rfl, rfl, rfl⟩ rfl (by decide) rfl (Nat.le_of_ble_eq_true rfl) rfl (fun _ S48 => ?_)
        refine sm_sub [] rfl ?_
        exact sJ_X7_row_51 Z  S48
      refine sm_aload_n (pc := 28) dX7_row_28 rfl 0 rfl ?_
      refine sm_getR (pc := 29) dX7_row_29 fr_RX7_49 (by decide) rfl (fun v29 => ?_)
      refine sm_iload_n (pc := 32) dX7_row_32 rfl 1 rfl ?_
      refine sm_aR (pc := 33) dX7_row_33 (by decide) (fun v33 => ?_)
      refine sm_iconst (pc := 34) (0 : Int32) dX7_row_34 (by decide) ?_
      refine sm_putI (pc := 35) dX7_row_35 fw_RX7_271 (by decide) rfl (fun S35 => ?_)
      refine sm_goto 51 (pc := 38) dX7_row_38 rfl ?_
      refine sm_sub [] rfl ?_
      exact sJ_X7_row_51 Z  S35
    refine sm_bipush (pc := 20) (-14 : Int32) dX7_row_20 (by decide) ?_
    exact sm_retI (pc := 22) dX7_row_22
  refine sm_sub [] rfl ?_
  exact sJ_X7_row_13 Z  S1
set_option maxRecDepth 20000 in
set_option maxHeartbeats 4000000 in
theorem m_X7_row (Z : ZT) (l : Launch) (c : Nat) (a1 : Int32) (a2 : Int32) (S : St) {r : Int32} {S' : St} (h : F_X7_row c a1 a2 S = some (r, S')) : MetX Z l yX7_row cX7_row 3 (some .int) rm_X7_row [.ref c, .int a1, .int a2] S (eI r) S' := Sim.met (by decide +kernel) rfl (Nat.le_of_ble_eq_true rfl) (s_X7_row Z c a1 a2 S) l h
set_option maxRecDepth 20000 in
set_option maxHeartbeats 4000000 in
theorem sJ_X7_put_41 (Z : ZT)   (t0 : Int32) (S : St) : Sim eI Z rm_X7_put RX7 cX7_put 6 (some .int) 41 [] [.int t0] S (J_X7_put_41  t0 S) := by
  unfold J_X7_put_41
  exact sm_retI (pc := 41) dX7_put_41
set_option maxRecDepth 20000 in
set_option maxHeartbeats 4000000 in
theorem sJ_X7_put_55 (Z : ZT)    (S : St) : Sim eI Z rm_X7_put RX7 cX7_put 6 (some .int) 55 [] [] S (J_X7_put_55  S) := by
  unfold J_X7_put_55
  refine sm_bipush (pc := 55) (-13 : Int32) dX7_put_55 (by decide) ?_
  exact sm_retI (pc := 57) dX7_put_57
set_option maxRecDepth 20000 in
set_option maxHeartbeats 4000000 in
theorem s_X7_put (Z : ZT) (c : Nat) (a1 : Int32) (a2 : Int32) (a3 : Int64) (S : St) : Sim eI Z rm_X7_put RX7 cX7_put 6 (some .int) 0 [(0, .ref c), (1, .int a1), (2, .int a2), (3, .long a3)] [] S (F_X7_put c a1 a2 a3 S) := by
  unfold F_X7_put
  refine sm_iload_n (pc := 0) dX7_put_0 rfl 1 rfl ?_
  refine sm_callSI (pc := 1) [.int a1] (fun lq rq Sq hq => m_X7_isHolder Z lq a1 S hq) dX7_put_1 mi_X7_isHolder ml_RX7_268 ⟨Nat.le_of_ble_eq_true rfl, Nat.le_of_ble_eq_true rfl, rfl, rfl⟩ rfl (Nat.le_of_ble_eq_true rfl) rfl (fun r1 S1 => ?_)
  refine sm_if_ne 9 (pc := 4) dX7_put_4 rfl ?_ ?_
  · refine sm_aload_n (pc := 9) dX7_put_9 rfl 0 rfl ?_
    refine sm_getR (pc := 10) dX7_put_10 fr_RX7_49 (by decide) rfl (fun v10 => ?_)
    refine sm_iload_n (pc := 13) dX7_put_13 rfl 1 rfl ?_
    refine sm_aR (pc := 14) dX7_put_14 (by decide) (fun v14 => ?_)
    refine sm_astore (pc := 15) (lv' := [(5, .ref v14), (0, .ref c), (1, .int a1), (2, .int a2), (3, .long a3)]) dX7_put_15 (by decide) rfl ?_
    refine sm_aload (pc := 17) dX7_put_17 0 rfl ?_
    refine sm_getI (pc := 19) dX7_put_19 fr_RX7_271 (by decide) rfl (fun v19 => ?_)
    refine sm_iconst (pc := 22) (3 : Int32) dX7_put_22 (by decide) ?_
    refine sm_icmp_eq 42 (pc := 23) dX7_put_23 rfl ?_ ?_
    · refine sm_iload_n (pc := 42) dX7_put_42 rfl 3 rfl ?_
      refine sm_if_lt 55 (pc := 43) dX7_put_43 rfl ?_ ?_
      · refine sm_sub [] rfl ?_
        exact sJ_X7_put_55 Z  S1
      refine sm_iload_n (pc := 46) dX7_put_46 rfl 3 rfl ?_
      refine sm_aload (pc := 47) dX7_put_47 0 rfl ?_
      refine sm_getI (pc := 49) dX7_put_49 fr_RX7_274 (by decide) rfl (fun v49 => ?_)
      refine sm_icmp_lt 58 (pc := 52) dX7_put_52 rfl ?_ ?_
      · refine sm_aload (pc := 58) dX7_put_58 0 rfl ?_
        refine sm_getR (pc := 60) dX7_put_60 fr_RX7_275 (by decide) rfl (fun v60 => ?_)
        refine sm_iload_n (pc := 63) dX7_put_63 rfl 3 rfl ?_
        refine sm_lload_n (pc := 64) dX7_put_64 rfl 4 rfl ?_
        refine sm_sJ (pc := 65) dX7_put_65 (fun S65 => ?_)
        refine sm_iconst (pc := 66) (1 : Int32) dX7_put_66 (by decide) ?_
        exact sm_retI (pc := 67) dX7_put_67
      refine sm_sub [] rfl ?_
      exact sJ_X7_put_55 Z  S1
    refine sm_aload (pc := 26) dX7_put_26 0 rfl ?_
    refine sm_getI (pc := 28) dX7_put_28 fr_RX7_271 (by decide) rfl (fun v28 => ?_)
    refine sm_if_ne 39 (pc := 31) dX7_put_31 rfl ?_ ?_
    · refine sm_bipush (pc := 39) (-12 : Int32) dX7_put_39 (by decide) ?_
      refine sm_sub [] rfl ?_
      exact sJ_X7_put_41 Z  (-12 : Int32) S1
    refine sm_bipush (pc := 34) (-11 : Int32) dX7_put_34 (by decide) ?_
    refine sm_goto 41 (pc := 36) dX7_put_36 rfl ?_
    refine sm_sub [] rfl ?_
    exact sJ_X7_put_41 Z  (-11 : Int32) S1
  refine sm_iconst (pc := 7) (-1 : Int32) dX7_put_7 (by decide) ?_
  exact sm_retI (pc := 8) dX7_put_8
set_option maxRecDepth 20000 in
set_option maxHeartbeats 4000000 in
theorem m_X7_put (Z : ZT) (l : Launch) (c : Nat) (a1 : Int32) (a2 : Int32) (a3 : Int64) (S : St) {r : Int32} {S' : St} (h : F_X7_put c a1 a2 a3 S = some (r, S')) : MetX Z l yX7_put cX7_put 6 (some .int) rm_X7_put [.ref c, .int a1, .int a2, .long a3] S (eI r) S' := Sim.met (by decide +kernel) rfl (Nat.le_of_ble_eq_true rfl) (s_X7_put Z c a1 a2 a3 S) l h
set_option maxRecDepth 20000 in
set_option maxHeartbeats 4000000 in
theorem sJ_X7_loanTells_82 (Z : ZT)    (S : St) : Sim eL Z rm_X7_loanTells RX7 cX7_loanTells 4 (some .long) 82 [] [] S (J_X7_loanTells_82  S) := by
  unfold J_X7_loanTells_82
  refine sm_ldc2 (pc := 82) (-12 : Int64) dX7_loanTells_82 kc_RX7_325 ?_
  exact sm_retL (pc := 85) dX7_loanTells_85
set_option maxRecDepth 20000 in
set_option maxHeartbeats 4000000 in
theorem sJ_X7_loanTells_81 (Z : ZT)   (t0 : Int64) (S : St) : Sim eL Z rm_X7_loanTells RX7 cX7_loanTells 4 (some .long) 81 [] [.long t0] S (J_X7_loanTells_81  t0 S) := by
  unfold J_X7_loanTells_81
  exact sm_retL (pc := 81) dX7_loanTells_81
set_option maxRecDepth 20000 in
set_option maxHeartbeats 4000000 in
theorem s_X7_loanTells (Z : ZT) (c : Nat) (a1 : Int32) (a2 : Int32) (S : St) : Sim eL Z rm_X7_loanTells RX7 cX7_loanTells 4 (some .long) 0 [(0, .ref c), (1, .int a1), (2, .int a2)] [] S (F_X7_loanTells c a1 a2 S) := by
  unfold F_X7_loanTells
  refine sm_aload_n (pc := 0) dX7_loanTells_0 rfl 0 rfl ?_
  refine sm_getR (pc := 1) dX7_loanTells_1 fr_RX7_10 (by decide) rfl (fun v1 => ?_)
  refine sm_iload_n (pc := 4) dX7_loanTells_4 rfl 1 rfl ?_
  refine sm_callVI (pc := 5) [.int a1] (fun lq rq Sq hq => m_X1_has Z lq v1 a1 S hq) dX7_loanTells_5 mi_X1_has ml_RX7_101 ⟨Nat.le_of_ble_eq_true rfl, Nat.le_of_ble_eq_true rfl, rfl, rfl⟩ rfl (by decide) rfl (Nat.le_of_ble_eq_true rfl) rfl (fun r5 S5 => ?_)
  refine sm_if_ne 15 (pc := 8) dX7_loanTells_8 rfl ?_ ?_
  · refine sm_aload_n (pc := 15) dX7_loanTells_15 rfl 0 rfl ?_
    refine sm_getR (pc := 16) dX7_loanTells_16 fr_RX7_10 (by decide) rfl (fun v16 => ?_)
    refine sm_getR (pc := 19) dX7_loanTells_19 fr_RX7_108 (by decide) rfl (fun v19 => ?_)
    refine sm_iload_n (pc := 22) dX7_loanTells_22 rfl 1 rfl ?_
    refine sm_aR (pc := 23) dX7_loanTells_23 (by decide) (fun v23 => ?_)
    refine sm_astore_n (pc := 24) (lv' := [(3, .ref v23), (0, .ref c), (1, .int a1), (2, .int a2)]) dX7_loanTells_24 rfl (by decide) rfl ?_
    refine sm_iload_n (pc := 25) dX7_loanTells_25 rfl 3 rfl ?_
    refine sm_tswk (pc := 26) 82 [56, 59, 82, 64] [0, 1, 2, 3] dX7_loanTells_26 rfl (by decide) (by decide) (by decide) rfl ⟨?_, ?_, ?_, ?_, trivial⟩ ?_
    · refine sm_iload_n (pc := 56) dX7_loanTells_56 rfl 2 rfl ?_
      refine sm_i2l (pc := 57) dX7_loanTells_57 ?_
      exact sm_retL (pc := 58) dX7_loanTells_58
    · refine sm_aload_n (pc := 59) dX7_loanTells_59 rfl 0 rfl ?_
      refine sm_getL (pc := 60) dX7_loanTells_60 fr_RX7_171 (by decide) rfl (fun v60 => ?_)
      exact sm_retL (pc := 63) dX7_loanTells_63
    · refine sm_sub [] rfl ?_
      exact sJ_X7_loanTells_82 Z  S5
    · refine sm_aload_n (pc := 64) dX7_loanTells_64 rfl 0 rfl ?_
      refine sm_getI (pc := 65) dX7_loanTells_65 fr_RX7_145 (by decide) rfl (fun v65 => ?_)
      refine sm_if_ne 78 (pc := 68) dX7_loanTells_68 rfl ?_ ?_
      · refine sm_ldc2 (pc := 78) (-12 : Int64) dX7_loanTells_78 kc_RX7_325 ?_
        refine sm_sub [] rfl ?_
        exact sJ_X7_loanTells_81 Z  (-12 : Int64) S5
      refine sm_aload_n (pc := 71) dX7_loanTells_71 rfl 0 rfl ?_
      refine sm_getL (pc := 72) dX7_loanTells_72 fr_RX7_122 (by decide) rfl (fun v72 => ?_)
      refine sm_goto 81 (pc := 75) dX7_loanTells_75 rfl ?_
      refine sm_sub [] rfl ?_
      exact sJ_X7_loanTells_81 Z  v72 S5
    refine sm_sub [] rfl ?_
    exact sJ_X7_loanTells_82 Z  S5
  refine sm_ldc2 (pc := 11) (-11 : Int64) dX7_loanTells_11 kc_RX7_327 ?_
  exact sm_retL (pc := 14) dX7_loanTells_14
set_option maxRecDepth 20000 in
set_option maxHeartbeats 4000000 in
theorem m_X7_loanTells (Z : ZT) (l : Launch) (c : Nat) (a1 : Int32) (a2 : Int32) (S : St) {r : Int64} {S' : St} (h : F_X7_loanTells c a1 a2 S = some (r, S')) : MetX Z l yX7_loanTells cX7_loanTells 4 (some .long) rm_X7_loanTells [.ref c, .int a1, .int a2] S (eL r) S' := Sim.met (by decide +kernel) rfl (Nat.le_of_ble_eq_true rfl) (s_X7_loanTells Z c a1 a2 S) l h
set_option maxRecDepth 20000 in
set_option maxHeartbeats 4000000 in
theorem s_X7_billTells (Z : ZT) (a1 : Nat) (a2 : Int32) (S : St) : Sim eL Z rm_X7_billTells RX7 cX7_billTells 2 (some .long) 0 [(0, .ref a1), (1, .int a2)] [] S (F_X7_billTells a1 a2 S) := by
  unfold F_X7_billTells
  refine sm_iload_n (pc := 0) dX7_billTells_0 rfl 1 rfl ?_
  refine sm_lswk (pc := 1) 39 [28, 34] [0, 2] dX7_billTells_1 rfl (by decide) (by decide) (by decide) (by decide) rfl ⟨?_, ?_, trivial⟩ ?_
  · refine sm_aload_n (pc := 28) dX7_billTells_28 rfl 0 rfl ?_
    refine sm_getI (pc := 29) dX7_billTells_29 fr_RX7_299 (by decide) rfl (fun v29 => ?_)
    refine sm_i2l (pc := 32) dX7_billTells_32 ?_
    exact sm_retL (pc := 33) dX7_billTells_33
  · refine sm_aload_n (pc := 34) dX7_billTells_34 rfl 0 rfl ?_
    refine sm_getL (pc := 35) dX7_billTells_35 fr_RX7_338 (by decide) rfl (fun v35 => ?_)
    exact sm_retL (pc := 38) dX7_billTells_38
  refine sm_ldc2 (pc := 39) (-12 : Int64) dX7_billTells_39 kc_RX7_325 ?_
  exact sm_retL (pc := 42) dX7_billTells_42
set_option maxRecDepth 20000 in
set_option maxHeartbeats 4000000 in
theorem m_X7_billTells (Z : ZT) (l : Launch) (a1 : Nat) (a2 : Int32) (S : St) {r : Int64} {S' : St} (h : F_X7_billTells a1 a2 S = some (r, S')) : MetX Z l yX7_billTells cX7_billTells 2 (some .long) rm_X7_billTells [.ref a1, .int a2] S (eL r) S' := Sim.met (by decide +kernel) rfl (Nat.le_of_ble_eq_true rfl) (s_X7_billTells Z a1 a2 S) l h
set_option maxRecDepth 20000 in
set_option maxHeartbeats 4000000 in
theorem sJ_X7_tells_16 (Z : ZT)    (S : St) : Sim eL Z rm_X7_tells RX7 cX7_tells 4 (some .long) 16 [] [] S (J_X7_tells_16  S) := by
  unfold J_X7_tells_16
  refine sm_ldc2 (pc := 16) (-1 : Int64) dX7_tells_16 kc_RX7_79 ?_
  exact sm_retL (pc := 19) dX7_tells_19
set_option maxRecDepth 20000 in
set_option maxHeartbeats 4000000 in
theorem s_X7_tells (Z : ZT) (c : Nat) (a1 : Int32) (a2 : Int32) (S : St) : Sim eL Z rm_X7_tells RX7 cX7_tells 4 (some .long) 0 [(0, .ref c), (1, .int a1), (2, .int a2)] [] S (F_X7_tells c a1 a2 S) := by
  unfold F_X7_tells
  refine sm_iload_n (pc := 0) dX7_tells_0 rfl 1 rfl ?_
  refine sm_callSI (pc := 1) [.int a1] (fun lq rq Sq hq => m_X7_isHolder Z lq a1 S hq) dX7_tells_1 mi_X7_isHolder ml_RX7_268 ⟨Nat.le_of_ble_eq_true rfl, Nat.le_of_ble_eq_true rfl, rfl, rfl⟩ rfl (Nat.le_of_ble_eq_true rfl) rfl (fun r1 S1 => ?_)
  refine sm_if_eq 16 (pc := 4) dX7_tells_4 rfl ?_ ?_
  · refine sm_sub [] rfl ?_
    exact sJ_X7_tells_16 Z  S1
  refine sm_iload_n (pc := 7) dX7_tells_7 rfl 2 rfl ?_
  refine sm_iconst (pc := 8) (0 : Int32) dX7_tells_8 (by decide) ?_
  refine sm_iconst (pc := 9) (3 : Int32) dX7_tells_9 (by decide) ?_
  refine sm_callSI (pc := 10) [.int a2, .int (0 : Int32), .int (3 : Int32)] (fun lq rq Sq hq => m_X7_isWithin Z lq a2 (0 : Int32) (3 : Int32) S1 hq) dX7_tells_10 mi_X7_isWithin ml_RX7_67 ⟨Nat.le_of_ble_eq_true rfl, Nat.le_of_ble_eq_true rfl, rfl, rfl⟩ rfl (Nat.le_of_ble_eq_true rfl) rfl (fun r10 S10 => ?_)
  refine sm_if_ne 20 (pc := 13) dX7_tells_13 rfl ?_ ?_
  · refine sm_aload_n (pc := 20) dX7_tells_20 rfl 0 rfl ?_
    refine sm_getR (pc := 21) dX7_tells_21 fr_RX7_49 (by decide) rfl (fun v21 => ?_)
    refine sm_iload_n (pc := 24) dX7_tells_24 rfl 1 rfl ?_
    refine sm_aR (pc := 25) dX7_tells_25 (by decide) (fun v25 => ?_)
    refine sm_astore_n (pc := 26) (lv' := [(3, .ref v25), (0, .ref c), (1, .int a1), (2, .int a2)]) dX7_tells_26 rfl (by decide) rfl ?_
    refine sm_aload_n (pc := 27) dX7_tells_27 rfl 0 rfl ?_
    refine sm_getI (pc := 28) dX7_tells_28 fr_RX7_271 (by decide) rfl (fun v28 => ?_)
    refine sm_tswk (pc := 31) 76 [56, 66, 72] [1, 2, 3] dX7_tells_31 rfl (by decide) (by decide) (by decide) rfl ⟨?_, ?_, ?_, trivial⟩ ?_
    · refine sm_aload_n (pc := 56) dX7_tells_56 rfl 1 rfl ?_
      refine sm_aload_n (pc := 57) dX7_tells_57 rfl 0 rfl ?_
      refine sm_getI (pc := 58) dX7_tells_58 fr_RX7_299 (by decide) rfl (fun v58 => ?_)
      refine sm_iload_n (pc := 61) dX7_tells_61 rfl 3 rfl ?_
      refine sm_callVL (pc := 62) [.int v58, .int a2] (fun lq rq Sq hq => m_X7_loanTells Z lq c v58 a2 S10 hq) dX7_tells_62 mi_X7_loanTells ml_RX7_317 ⟨Nat.le_of_ble_eq_true rfl, Nat.le_of_ble_eq_true rfl, rfl, rfl⟩ rfl (by decide) rfl (Nat.le_of_ble_eq_true rfl) rfl (fun r62 S62 => ?_)
      exact sm_retL (pc := 65) dX7_tells_65
    · refine sm_aload_n (pc := 66) dX7_tells_66 rfl 0 rfl ?_
      refine sm_iload_n (pc := 67) dX7_tells_67 rfl 3 rfl ?_
      refine sm_callSL (pc := 68) [.ref v25, .int a2] (fun lq rq Sq hq => m_X7_billTells Z lq v25 a2 S10 hq) dX7_tells_68 mi_X7_billTells ml_RX7_321 ⟨Nat.le_of_ble_eq_true rfl, Nat.le_of_ble_eq_true rfl, rfl, rfl⟩ rfl (Nat.le_of_ble_eq_true rfl) rfl (fun r68 S68 => ?_)
      exact sm_retL (pc := 71) dX7_tells_71
    · refine sm_ldc2 (pc := 72) (-12 : Int64) dX7_tells_72 kc_RX7_325 ?_
      exact sm_retL (pc := 75) dX7_tells_75
    refine sm_ldc2 (pc := 76) (-11 : Int64) dX7_tells_76 kc_RX7_327 ?_
    exact sm_retL (pc := 79) dX7_tells_79
  refine sm_sub [] rfl ?_
  exact sJ_X7_tells_16 Z  S10
set_option maxRecDepth 20000 in
set_option maxHeartbeats 4000000 in
theorem m_X7_tells (Z : ZT) (l : Launch) (c : Nat) (a1 : Int32) (a2 : Int32) (S : St) {r : Int64} {S' : St} (h : F_X7_tells c a1 a2 S = some (r, S')) : MetX Z l yX7_tells cX7_tells 4 (some .long) rm_X7_tells [.ref c, .int a1, .int a2] S (eL r) S' := Sim.met (by decide +kernel) rfl (Nat.le_of_ble_eq_true rfl) (s_X7_tells Z c a1 a2 S) l h
set_option maxRecDepth 20000 in
set_option maxHeartbeats 4000000 in
theorem sJ_X7_fullHolders_25 (Z : ZT) (rec4 : (Nat → Int32 → Int32 → St → Option (Int32 × St))) (h4 : ∀ (x0 : Nat) (x1 : Int32) (x2 : Int32)  (S : St), Sim eI Z rm_X7_fullHolders RX7 cX7_fullHolders 3 (some .int) 4 [(0, .ref x0), (1, .int x1), (2, .int x2)] [] S (rec4 x0 x1 x2 S)) (x0 : Nat) (x1 : Int32) (x2 : Int32)  (S : St) : Sim eI Z rm_X7_fullHolders RX7 cX7_fullHolders 3 (some .int) 25 [(0, .ref x0), (1, .int x1), (2, .int x2)] [] S (J_X7_fullHolders_25 rec4 x0 x1 x2 S) := by
  unfold J_X7_fullHolders_25
  refine sm_iinc (pc := 25) (x2 + 1) (lv' := [(2, .int (x2 + 1)), (0, .ref x0), (1, .int x1)]) dX7_fullHolders_25 2 rfl rfl (by decide) rfl ?_
  refine sm_goto 4 (pc := 28) dX7_fullHolders_28 rfl ?_
  refine sm_sub [1, 2, 0] rfl ?_
  exact h4 x0 x1 (x2 + 1) S
set_option maxRecDepth 20000 in
set_option maxHeartbeats 4000000 in
theorem sB_X7_fullHolders_4 (Z : ZT) (rec4 : (Nat → Int32 → Int32 → St → Option (Int32 × St))) (h4 : ∀ (x0 : Nat) (x1 : Int32) (x2 : Int32)  (S : St), Sim eI Z rm_X7_fullHolders RX7 cX7_fullHolders 3 (some .int) 4 [(0, .ref x0), (1, .int x1), (2, .int x2)] [] S (rec4 x0 x1 x2 S)) (x0 : Nat) (x1 : Int32) (x2 : Int32)  (S : St) : Sim eI Z rm_X7_fullHolders RX7 cX7_fullHolders 3 (some .int) 4 [(0, .ref x0), (1, .int x1), (2, .int x2)] [] S (B_X7_fullHolders_4 rec4 x0 x1 x2 S) := by
  unfold B_X7_fullHolders_4
  refine sm_iload_n (pc := 4) dX7_fullHolders_4 rfl 2 rfl ?_
  refine sm_bipush (pc := 5) (6 : Int32) dX7_fullHolders_5 (by decide) ?_
  refine sm_icmp_ge 31 (pc := 7) dX7_fullHolders_7 rfl ?_ ?_
  · refine sm_iload_n (pc := 31) dX7_fullHolders_31 rfl 1 rfl ?_
    exact sm_retI (pc := 32) dX7_fullHolders_32
  refine sm_aload_n (pc := 10) dX7_fullHolders_10 rfl 0 rfl ?_
  refine sm_getR (pc := 11) dX7_fullHolders_11 fr_RX7_49 (by decide) rfl (fun v11 => ?_)
  refine sm_iload_n (pc := 14) dX7_fullHolders_14 rfl 2 rfl ?_
  refine sm_aR (pc := 15) dX7_fullHolders_15 (by decide) (fun v15 => ?_)
  refine sm_getI (pc := 16) dX7_fullHolders_16 fr_RX7_271 (by decide) rfl (fun v16 => ?_)
  refine sm_if_eq 25 (pc := 19) dX7_fullHolders_19 rfl ?_ ?_
  · refine sm_sub [0, 1, 2] rfl ?_
    exact sJ_X7_fullHolders_25 Z rec4 h4 x0 x1 x2 S
  refine sm_iinc (pc := 22) (x1 + 1) (lv' := [(1, .int (x1 + 1)), (0, .ref x0), (2, .int x2)]) dX7_fullHolders_22 1 rfl rfl (by decide) rfl ?_
  refine sm_sub [1, 0, 2] rfl ?_
  exact sJ_X7_fullHolders_25 Z rec4 h4 x0 (x1 + 1) x2 S
set_option maxRecDepth 20000 in
set_option maxHeartbeats 4000000 in
theorem sL_X7_fullHolders_4 (Z : ZT)  (n : Nat) : ∀ (x0 : Nat) (x1 : Int32) (x2 : Int32)  (S : St), Sim eI Z rm_X7_fullHolders RX7 cX7_fullHolders 3 (some .int) 4 [(0, .ref x0), (1, .int x1), (2, .int x2)] [] S (L_X7_fullHolders_4  n x0 x1 x2 S) := by
  induction n with
  | zero => intros; exact sm_none
  | succ n ih => intro x0 x1 x2 S; exact sB_X7_fullHolders_4 Z  (L_X7_fullHolders_4  n) ih x0 x1 x2 S
set_option maxRecDepth 20000 in
set_option maxHeartbeats 4000000 in
theorem s_X7_fullHolders (Z : ZT) (c : Nat) (S : St) : Sim eI Z rm_X7_fullHolders RX7 cX7_fullHolders 3 (some .int) 0 [(0, .ref c)] [] S (F_X7_fullHolders c S) := by
  unfold F_X7_fullHolders
  refine sm_iconst (pc := 0) (0 : Int32) dX7_fullHolders_0 (by decide) ?_
  refine sm_istore_n (pc := 1) (lv' := [(1, .int (0 : Int32)), (0, .ref c)]) dX7_fullHolders_1 rfl (by decide) rfl ?_
  refine sm_iconst (pc := 2) (0 : Int32) dX7_fullHolders_2 (by decide) ?_
  refine sm_istore_n (pc := 3) (lv' := [(2, .int (0 : Int32)), (1, .int (0 : Int32)), (0, .ref c)]) dX7_fullHolders_3 rfl (by decide) rfl ?_
  refine sm_sub [2, 1, 0] rfl ?_
  exact sL_X7_fullHolders_4 Z  6000 c (0 : Int32) (0 : Int32) S
set_option maxRecDepth 20000 in
set_option maxHeartbeats 4000000 in
theorem m_X7_fullHolders (Z : ZT) (l : Launch) (c : Nat) (S : St) {r : Int32} {S' : St} (h : F_X7_fullHolders c S = some (r, S')) : MetX Z l yX7_fullHolders cX7_fullHolders 3 (some .int) rm_X7_fullHolders [.ref c] S (eI r) S' := Sim.met (by decide +kernel) rfl (Nat.le_of_ble_eq_true rfl) (s_X7_fullHolders Z c S) l h
set_option maxRecDepth 20000 in
set_option maxHeartbeats 4000000 in
theorem s_X7_count (Z : ZT) (c : Nat) (a1 : Int32) (S : St) : Sim eI Z rm_X7_count RX7 cX7_count 2 (some .int) 0 [(0, .ref c), (1, .int a1)] [] S (F_X7_count c a1 S) := by
  unfold F_X7_count
  refine sm_iload_n (pc := 0) dX7_count_0 rfl 1 rfl ?_
  refine sm_tswk (pc := 1) 109 [48, 56, 64, 72, 80, 88, 96, 104] [0, 1, 2, 3, 4, 5, 6, 7] dX7_count_1 rfl (by decide) (by decide) (by decide) rfl ⟨?_, ?_, ?_, ?_, ?_, ?_, ?_, ?_, trivial⟩ ?_
  · refine sm_aload_n (pc := 48) dX7_count_48 rfl 0 rfl ?_
    refine sm_getR (pc := 49) dX7_count_49 fr_RX7_10 (by decide) rfl (fun v49 => ?_)
    refine sm_getI (pc := 52) dX7_count_52 fr_RX7_253 (by decide) rfl (fun v52 => ?_)
    exact sm_retI (pc := 55) dX7_count_55
  · refine sm_aload_n (pc := 56) dX7_count_56 rfl 0 rfl ?_
    refine sm_getR (pc := 57) dX7_count_57 fr_RX7_10 (by decide) rfl (fun v57 => ?_)
    refine sm_callVI (pc := 60) [] (fun lq rq Sq hq => m_X1_billsInArrears Z lq v57 S hq) dX7_count_60 mi_X1_billsInArrears ml_RX7_329 ⟨Nat.le_of_ble_eq_true rfl, Nat.le_of_ble_eq_true rfl, rfl, rfl⟩ rfl (by decide) rfl (Nat.le_of_ble_eq_true rfl) rfl (fun r60 S60 => ?_)
    exact sm_retI (pc := 63) dX7_count_63
  · refine sm_aload_n (pc := 64) dX7_count_64 rfl 0 rfl ?_
    refine sm_getR (pc := 65) dX7_count_65 fr_RX7_10 (by decide) rfl (fun v65 => ?_)
    refine sm_getI (pc := 68) dX7_count_68 fr_RX7_93 (by decide) rfl (fun v68 => ?_)
    exact sm_retI (pc := 71) dX7_count_71
  · refine sm_aload_n (pc := 72) dX7_count_72 rfl 0 rfl ?_
    refine sm_getR (pc := 73) dX7_count_73 fr_RX7_10 (by decide) rfl (fun v73 => ?_)
    refine sm_getI (pc := 76) dX7_count_76 fr_RX7_136 (by decide) rfl (fun v76 => ?_)
    exact sm_retI (pc := 79) dX7_count_79
  · refine sm_aload_n (pc := 80) dX7_count_80 rfl 0 rfl ?_
    refine sm_getR (pc := 81) dX7_count_81 fr_RX7_10 (by decide) rfl (fun v81 => ?_)
    refine sm_getI (pc := 84) dX7_count_84 fr_RX7_139 (by decide) rfl (fun v84 => ?_)
    exact sm_retI (pc := 87) dX7_count_87
  · refine sm_aload_n (pc := 88) dX7_count_88 rfl 0 rfl ?_
    refine sm_getR (pc := 89) dX7_count_89 fr_RX7_10 (by decide) rfl (fun v89 => ?_)
    refine sm_callVI (pc := 92) [] (fun lq rq Sq hq => m_X1_settledLoans Z lq v89 S hq) dX7_count_92 mi_X1_settledLoans ml_RX7_330 ⟨Nat.le_of_ble_eq_true rfl, Nat.le_of_ble_eq_true rfl, rfl, rfl⟩ rfl (by decide) rfl (Nat.le_of_ble_eq_true rfl) rfl (fun r92 S92 => ?_)
    exact sm_retI (pc := 95) dX7_count_95
  · refine sm_aload_n (pc := 96) dX7_count_96 rfl 0 rfl ?_
    refine sm_getR (pc := 97) dX7_count_97 fr_RX7_43 (by decide) rfl (fun v97 => ?_)
    refine sm_getI (pc := 100) dX7_count_100 fr_RX7_278 (by decide) rfl (fun v100 => ?_)
    exact sm_retI (pc := 103) dX7_count_103
  · refine sm_aload_n (pc := 104) dX7_count_104 rfl 0 rfl ?_
    refine sm_callVI (pc := 105) [] (fun lq rq Sq hq => m_X7_fullHolders Z lq c S hq) dX7_count_105 mi_X7_fullHolders ml_RX7_333 ⟨Nat.le_of_ble_eq_true rfl, Nat.le_of_ble_eq_true rfl, rfl, rfl⟩ rfl (by decide) rfl (Nat.le_of_ble_eq_true rfl) rfl (fun r105 S105 => ?_)
    exact sm_retI (pc := 108) dX7_count_108
  refine sm_iconst (pc := 109) (-1 : Int32) dX7_count_109 (by decide) ?_
  exact sm_retI (pc := 110) dX7_count_110
set_option maxRecDepth 20000 in
set_option maxHeartbeats 4000000 in
theorem m_X7_count (Z : ZT) (l : Launch) (c : Nat) (a1 : Int32) (S : St) {r : Int32} {S' : St} (h : F_X7_count c a1 S = some (r, S')) : MetX Z l yX7_count cX7_count 2 (some .int) rm_X7_count [.ref c, .int a1] S (eI r) S' := Sim.met (by decide +kernel) rfl (Nat.le_of_ble_eq_true rfl) (s_X7_count Z c a1 S) l h
set_option maxRecDepth 20000 in
set_option maxHeartbeats 4000000 in
theorem sJ_X8_in_18 (Z : ZT)   (t0 : Int32) (S : St) : Sim eI Z rm_X8_in RX8 cX8_in 6 (some .boolean) 18 [] [.int t0] S (J_X8_in_18  t0 S) := by
  unfold J_X8_in_18
  exact sm_retZ (pc := 18) dX8_in_18
set_option maxRecDepth 20000 in
set_option maxHeartbeats 4000000 in
theorem sJ_X8_in_17 (Z : ZT)    (S : St) : Sim eI Z rm_X8_in RX8 cX8_in 6 (some .boolean) 17 [] [] S (J_X8_in_17  S) := by
  unfold J_X8_in_17
  refine sm_iconst (pc := 17) (0 : Int32) dX8_in_17 (by decide) ?_
  refine sm_sub [] rfl ?_
  exact sJ_X8_in_18 Z  (0 : Int32) S
set_option maxRecDepth 20000 in
set_option maxHeartbeats 4000000 in
theorem s_X8_in (Z : ZT) (a1 : Int64) (a2 : Int64) (a3 : Int64) (S : St) : Sim eI Z rm_X8_in RX8 cX8_in 6 (some .boolean) 0 [(0, .long a1), (2, .long a2), (4, .long a3)] [] S (F_X8_in a1 a2 a3 S) := by
  unfold F_X8_in
  refine sm_lload_n (pc := 0) dX8_in_0 rfl 0 rfl ?_
  refine sm_lload_n (pc := 1) dX8_in_1 rfl 1 rfl ?_
  refine sm_lcmp_lt 17 (pc := 2) dX8_in_2 dX8_in_3 rfl ?_ ?_
  · refine sm_sub [] rfl ?_
    exact sJ_X8_in_17 Z  S
  refine sm_lload_n (pc := 6) dX8_in_6 rfl 0 rfl ?_
  refine sm_lload (pc := 7) dX8_in_7 2 rfl ?_
  refine sm_lcmp_gt 17 (pc := 9) dX8_in_9 dX8_in_10 rfl ?_ ?_
  · refine sm_sub [] rfl ?_
    exact sJ_X8_in_17 Z  S
  refine sm_iconst (pc := 13) (1 : Int32) dX8_in_13 (by decide) ?_
  refine sm_goto 18 (pc := 14) dX8_in_14 rfl ?_
  refine sm_sub [] rfl ?_
  exact sJ_X8_in_18 Z  (1 : Int32) S
set_option maxRecDepth 20000 in
set_option maxHeartbeats 4000000 in
theorem m_X8_in (Z : ZT) (l : Launch) (a1 : Int64) (a2 : Int64) (a3 : Int64) (S : St) {r : Int32} {S' : St} (h : F_X8_in a1 a2 a3 S = some (r, S')) : MetX Z l yX8_in cX8_in 6 (some .boolean) rm_X8_in [.long a1, .long a2, .long a3] S (eI r) S' := Sim.met (by decide +kernel) rfl (Nat.le_of_ble_eq_true rfl) (s_X8_in Z a1 a2 a3 S) l h
set_option maxRecDepth 20000 in
set_option maxHeartbeats 4000000 in
theorem sB_X8_take_2 (Z : ZT) (rec2 : (Nat → Nat → Int32 → St → Option (Unit × St))) (h2 : ∀ (x0 : Nat) (x1 : Nat) (x2 : Int32)  (S : St), Sim eV Z rm_X8_take RX8 cX8_take 3 none 2 [(0, .ref x0), (1, .ref x1), (2, .int x2)] [] S (rec2 x0 x1 x2 S)) (x0 : Nat) (x1 : Nat) (x2 : Int32)  (S : St) : Sim eV Z rm_X8_take RX8 cX8_take 3 none 2 [(0, .ref x0), (1, .ref x1), (2, .int x2)] [] S (B_X8_take_2 rec2 x0 x1 x2 S) := by
  unfold B_X8_take_2
  refine sm_iload_n (pc := 2) dX8_take_2 rfl 2 rfl ?_
  refine sm_sipush (pc := 3) (2524 : Int32) dX8_take_3 (by decide) ?_
  refine sm_icmp_ge 21 (pc := 6) dX8_take_6 rfl ?_ ?_
  · exact sm_retV (pc := 21) dX8_take_21
  refine sm_aload_n (pc := 9) dX8_take_9 rfl 1 rfl ?_
  refine sm_iload_n (pc := 10) dX8_take_10 rfl 2 rfl ?_
  refine sm_aload_n (pc := 11) dX8_take_11 rfl 0 rfl ?_
  refine sm_iload_n (pc := 12) dX8_take_12 rfl 2 rfl ?_
  refine sm_aJ (pc := 13) dX8_take_13 (fun v13 => ?_)
  refine sm_sJ (pc := 14) dX8_take_14 (fun S14 => ?_)
  refine sm_iinc (pc := 15) (x2 + 1) (lv' := [(2, .int (x2 + 1)), (0, .ref x0), (1, .ref x1)]) dX8_take_15 2 rfl rfl (by decide) rfl ?_
  refine sm_goto 2 (pc := 18) dX8_take_18 rfl ?_
  refine sm_sub [1, 2, 0] rfl ?_
  exact h2 x0 x1 (x2 + 1) S14
set_option maxRecDepth 20000 in
set_option maxHeartbeats 4000000 in
theorem sL_X8_take_2 (Z : ZT)  (n : Nat) : ∀ (x0 : Nat) (x1 : Nat) (x2 : Int32)  (S : St), Sim eV Z rm_X8_take RX8 cX8_take 3 none 2 [(0, .ref x0), (1, .ref x1), (2, .int x2)] [] S (L_X8_take_2  n x0 x1 x2 S) := by
  induction n with
  | zero => intros; exact sm_none
  | succ n ih => intro x0 x1 x2 S; exact sB_X8_take_2 Z  (L_X8_take_2  n) ih x0 x1 x2 S
set_option maxRecDepth 20000 in
set_option maxHeartbeats 4000000 in
theorem s_X8_take (Z : ZT) (a1 : Nat) (a2 : Nat) (S : St) : Sim eV Z rm_X8_take RX8 cX8_take 3 none 0 [(0, .ref a1), (1, .ref a2)] [] S (F_X8_take a1 a2 S) := by
  unfold F_X8_take
  refine sm_iconst (pc := 0) (0 : Int32) dX8_take_0 (by decide) ?_
  refine sm_istore_n (pc := 1) (lv' := [(2, .int (0 : Int32)), (0, .ref a1), (1, .ref a2)]) dX8_take_1 rfl (by decide) rfl ?_
  refine sm_sub [1, 2, 0] rfl ?_
  exact sL_X8_take_2 Z  6000 a1 a2 (0 : Int32) S
set_option maxRecDepth 20000 in
set_option maxHeartbeats 4000000 in
theorem m_X8_take (Z : ZT) (l : Launch) (a1 : Nat) (a2 : Nat) (S : St) {r : Unit} {S' : St} (h : F_X8_take a1 a2 S = some (r, S')) : MetX Z l yX8_take cX8_take 3 none rm_X8_take [.ref a1, .ref a2] S (eV r) S' := Sim.met (by decide +kernel) rfl (Nat.le_of_ble_eq_true rfl) (s_X8_take Z a1 a2 S) l h
set_option maxRecDepth 20000 in
set_option maxHeartbeats 4000000 in
theorem sJ_X8_isLeap_11 (Z : ZT)   (t0 : Int32) (S : St) : Sim eI Z rm_X8_isLeap RX8 cX8_isLeap 1 (some .boolean) 11 [] [.int t0] S (J_X8_isLeap_11  t0 S) := by
  unfold J_X8_isLeap_11
  exact sm_retZ (pc := 11) dX8_isLeap_11
set_option maxRecDepth 20000 in
set_option maxHeartbeats 4000000 in
theorem s_X8_isLeap (Z : ZT) (a1 : Int32) (S : St) : Sim eI Z rm_X8_isLeap RX8 cX8_isLeap 1 (some .boolean) 0 [(0, .int a1)] [] S (F_X8_isLeap a1 S) := by
  unfold F_X8_isLeap
  refine sm_iload_n (pc := 0) dX8_isLeap_0 rfl 0 rfl ?_
  refine sm_iconst (pc := 1) (4 : Int32) dX8_isLeap_1 (by decide) ?_
  refine sm_iremc (pc := 2) dX8_isLeap_2 (by decide) ?_
  refine sm_if_ne 10 (pc := 3) dX8_isLeap_3 rfl ?_ ?_
  · refine sm_iconst (pc := 10) (0 : Int32) dX8_isLeap_10 (by decide) ?_
    refine sm_sub [] rfl ?_
    exact sJ_X8_isLeap_11 Z  (0 : Int32) S
  refine sm_iconst (pc := 6) (1 : Int32) dX8_isLeap_6 (by decide) ?_
  refine sm_goto 11 (pc := 7) dX8_isLeap_7 rfl ?_
  refine sm_sub [] rfl ?_
  exact sJ_X8_isLeap_11 Z  (1 : Int32) S
set_option maxRecDepth 20000 in
set_option maxHeartbeats 4000000 in
theorem m_X8_isLeap (Z : ZT) (l : Launch) (a1 : Int32) (S : St) {r : Int32} {S' : St} (h : F_X8_isLeap a1 S = some (r, S')) : MetX Z l yX8_isLeap cX8_isLeap 1 (some .boolean) rm_X8_isLeap [.int a1] S (eI r) S' := Sim.met (by decide +kernel) rfl (Nat.le_of_ble_eq_true rfl) (s_X8_isLeap Z a1 S) l h
set_option maxRecDepth 20000 in
set_option maxHeartbeats 4000000 in
theorem sJ_X8_lastOf_52 (Z : ZT)   (t0 : Int32) (S : St) : Sim eI Z rm_X8_lastOf RX8 cX8_lastOf 2 (some .int) 52 [] [.int t0] S (J_X8_lastOf_52  t0 S) := by
  unfold J_X8_lastOf_52
  exact sm_retI (pc := 52) dX8_lastOf_52
set_option maxRecDepth 20000 in
set_option maxHeartbeats 4000000 in
theorem sJ_X8_lastOf_45 (Z : ZT)    (S : St) : Sim eI Z rm_X8_lastOf RX8 cX8_lastOf 2 (some .int) 45 [] [] S (J_X8_lastOf_45  S) := by
  unfold J_X8_lastOf_45
  refine sm_bipush (pc := 45) (30 : Int32) dX8_lastOf_45 (by decide) ?_
  refine sm_goto 52 (pc := 47) dX8_lastOf_47 rfl ?_
  refine sm_sub [] rfl ?_
  exact sJ_X8_lastOf_52 Z  (30 : Int32) S
set_option maxRecDepth 20000 in
set_option maxHeartbeats 4000000 in
theorem s_X8_lastOf (Z : ZT) (a1 : Int32) (a2 : Int32) (S : St) : Sim eI Z rm_X8_lastOf RX8 cX8_lastOf 2 (some .int) 0 [(0, .int a1), (1, .int a2)] [] S (F_X8_lastOf a1 a2 S) := by
  unfold F_X8_lastOf
  refine sm_iload_n (pc := 0) dX8_lastOf_0 rfl 1 rfl ?_
  refine sm_iconst (pc := 1) (2 : Int32) dX8_lastOf_1 (by decide) ?_
  refine sm_icmp_ne 22 (pc := 2) dX8_lastOf_2 rfl ?_ ?_
  · refine sm_iload_n (pc := 22) dX8_lastOf_22 rfl 1 rfl ?_
    refine sm_iconst (pc := 23) (4 : Int32) dX8_lastOf_23 (by decide) ?_
    refine sm_icmp_eq 45 (pc := 24) dX8_lastOf_24 rfl ?_ ?_
    · refine sm_sub [] rfl ?_
      exact sJ_X8_lastOf_45 Z  S
    refine sm_iload_n (pc := 27) dX8_lastOf_27 rfl 1 rfl ?_
    refine sm_bipush (pc := 28) (6 : Int32) dX8_lastOf_28 (by decide) ?_
    refine sm_icmp_eq 45 (pc := 30) dX8_lastOf_30 rfl ?_ ?_
    · refine sm_sub [] rfl ?_
      exact sJ_X8_lastOf_45 Z  S
    refine sm_iload_n (pc := 33) dX8_lastOf_33 rfl 1 rfl ?_
    refine sm_bipush (pc := 34) (9 : Int32) dX8_lastOf_34 (by decide) ?_
    refine sm_icmp_eq 45 (pc := 36) dX8_lastOf_36 rfl ?_ ?_
    · refine sm_sub [] rfl ?_
      exact sJ_X8_lastOf_45 Z  S
    refine sm_iload_n (pc := 39) dX8_lastOf_39 rfl 1 rfl ?_
    refine sm_bipush (pc := 40) (11 : Int32) dX8_lastOf_40 (by decide) ?_
    refine sm_icmp_ne 50 (pc := 42) dX8_lastOf_42 rfl ?_ ?_
    · refine sm_bipush (pc := 50) (31 : Int32) dX8_lastOf_50 (by decide) ?_
      refine sm_sub [] rfl ?_
      exact sJ_X8_lastOf_52 Z  (31 : Int32) S
    refine sm_sub [] rfl ?_
    exact sJ_X8_lastOf_45 Z  S
  refine sm_iload_n (pc := 5) dX8_lastOf_5 rfl 0 rfl ?_
  refine sm_callSI (pc := 6) [.int a1] (fun lq rq Sq hq => m_X8_isLeap Z lq a1 S hq) dX8_lastOf_6 mi_X8_isLeap ml_RX8_68 ⟨Nat.le_of_ble_eq_true rfl, Nat.le_of_ble_eq_true rfl, rfl, rfl⟩ rfl (Nat.le_of_ble_eq_true rfl) rfl (fun r6 S6 => ?_)
  refine sm_if_eq 17 (pc := 9) dX8_lastOf_9 rfl ?_ ?_
  · refine sm_bipush (pc := 17) (28 : Int32) dX8_lastOf_17 (by decide) ?_
    refine sm_goto 52 (pc := 19) dX8_lastOf_19 rfl ?_
    refine sm_sub [] rfl ?_
    exact sJ_X8_lastOf_52 Z  (28 : Int32) S6
  refine sm_bipush (pc := 12) (29 : Int32) dX8_lastOf_12 (by decide) ?_
  refine sm_goto 52 (pc := 14) dX8_lastOf_14 rfl ?_
  refine sm_sub [] rfl ?_
  exact sJ_X8_lastOf_52 Z  (29 : Int32) S6
set_option maxRecDepth 20000 in
set_option maxHeartbeats 4000000 in
theorem m_X8_lastOf (Z : ZT) (l : Launch) (a1 : Int32) (a2 : Int32) (S : St) {r : Int32} {S' : St} (h : F_X8_lastOf a1 a2 S = some (r, S')) : MetX Z l yX8_lastOf cX8_lastOf 2 (some .int) rm_X8_lastOf [.int a1, .int a2] S (eI r) S' := Sim.met (by decide +kernel) rfl (Nat.le_of_ble_eq_true rfl) (s_X8_lastOf Z a1 a2 S) l h
set_option maxRecDepth 20000 in
set_option maxHeartbeats 4000000 in
theorem sJ_X8_yearOf_42 (Z : ZT)   (t0 : Int32) (S : St) : Sim eI Z rm_X8_yearOf RX8 cX8_yearOf 3 (some .int) 42 [] [.int t0] S (J_X8_yearOf_42  t0 S) := by
  unfold J_X8_yearOf_42
  exact sm_retI (pc := 42) dX8_yearOf_42
set_option maxRecDepth 20000 in
set_option maxHeartbeats 4000000 in
theorem s_X8_yearOf (Z : ZT) (a1 : Int32) (S : St) : Sim eI Z rm_X8_yearOf RX8 cX8_yearOf 3 (some .int) 0 [(0, .int a1)] [] S (F_X8_yearOf a1 S) := by
  unfold F_X8_yearOf
  refine sm_sipush (pc := 0) (2000 : Int32) dX8_yearOf_0 (by decide) ?_
  refine sm_iload_n (pc := 3) dX8_yearOf_3 rfl 0 rfl ?_
  refine sm_sipush (pc := 4) (1461 : Int32) dX8_yearOf_4 (by decide) ?_
  refine sm_idivc (pc := 7) dX8_yearOf_7 (by decide) ?_
  refine sm_iconst (pc := 8) (4 : Int32) dX8_yearOf_8 (by decide) ?_
  refine sm_imul (pc := 9) dX8_yearOf_9 ?_
  refine sm_iadd (pc := 10) dX8_yearOf_10 ?_
  refine sm_bdI (fun v11 => ?_)
  refine sm_istore_n (pc := 11) (lv' := [(1, .int v11), (0, .int a1)]) dX8_yearOf_11 rfl (by decide) rfl ?_
  refine sm_iload_n (pc := 12) dX8_yearOf_12 rfl 1 rfl ?_
  refine sm_sipush (pc := 13) (1461 : Int32) dX8_yearOf_13 (by decide) ?_
  refine sm_iremc (pc := 16) dX8_yearOf_16 (by decide) ?_
  refine sm_bdI (fun v17 => ?_)
  refine sm_istore_n (pc := 17) (lv' := [(2, .int v17), (1, .int v11), (0, .int a1)]) dX8_yearOf_17 rfl (by decide) rfl ?_
  refine sm_iload_n (pc := 18) dX8_yearOf_18 rfl 0 rfl ?_
  refine sm_sipush (pc := 19) (366 : Int32) dX8_yearOf_19 (by decide) ?_
  refine sm_icmp_ge 29 (pc := 22) dX8_yearOf_22 rfl ?_ ?_
  · refine sm_iload_n (pc := 29) dX8_yearOf_29 rfl 1 rfl ?_
    refine sm_iconst (pc := 30) (1 : Int32) dX8_yearOf_30 (by decide) ?_
    refine sm_iadd (pc := 31) dX8_yearOf_31 ?_
    refine sm_iload_n (pc := 32) dX8_yearOf_32 rfl 0 rfl ?_
    refine sm_sipush (pc := 33) (366 : Int32) dX8_yearOf_33 (by decide) ?_
    refine sm_isub (pc := 36) dX8_yearOf_36 ?_
    refine sm_sipush (pc := 37) (365 : Int32) dX8_yearOf_37 (by decide) ?_
    refine sm_idivc (pc := 40) dX8_yearOf_40 (by decide) ?_
    refine sm_iadd (pc := 41) dX8_yearOf_41 ?_
    refine sm_sub [] rfl ?_
    exact sJ_X8_yearOf_42 Z  ((v11 + (1 : Int32)) + ((v17 - (366 : Int32)) / (365 : Int32))) S
  refine sm_iload_n (pc := 25) dX8_yearOf_25 rfl 1 rfl ?_
  refine sm_goto 42 (pc := 26) dX8_yearOf_26 rfl ?_
  refine sm_sub [] rfl ?_
  exact sJ_X8_yearOf_42 Z  v11 S
set_option maxRecDepth 20000 in
set_option maxHeartbeats 4000000 in
theorem m_X8_yearOf (Z : ZT) (l : Launch) (a1 : Int32) (S : St) {r : Int32} {S' : St} (h : F_X8_yearOf a1 S = some (r, S')) : MetX Z l yX8_yearOf cX8_yearOf 3 (some .int) rm_X8_yearOf [.int a1] S (eI r) S' := Sim.met (by decide +kernel) rfl (Nat.le_of_ble_eq_true rfl) (s_X8_yearOf Z a1 S) l h
set_option maxRecDepth 20000 in
set_option maxHeartbeats 4000000 in
theorem s_X8_yearStart (Z : ZT) (a1 : Int32) (S : St) : Sim eI Z rm_X8_yearStart RX8 cX8_yearStart 2 (some .int) 0 [(0, .int a1)] [] S (F_X8_yearStart a1 S) := by
  unfold F_X8_yearStart
  refine sm_iload_n (pc := 0) dX8_yearStart_0 rfl 0 rfl ?_
  refine sm_sipush (pc := 1) (2000 : Int32) dX8_yearStart_1 (by decide) ?_
  refine sm_isub (pc := 4) dX8_yearStart_4 ?_
  refine sm_bdI (fun v5 => ?_)
  refine sm_istore_n (pc := 5) (lv' := [(1, .int v5), (0, .int a1)]) dX8_yearStart_5 rfl (by decide) rfl ?_
  refine sm_sipush (pc := 6) (365 : Int32) dX8_yearStart_6 (by decide) ?_
  refine sm_iload_n (pc := 9) dX8_yearStart_9 rfl 0 rfl ?_
  refine sm_imul (pc := 10) dX8_yearStart_10 ?_
  refine sm_iload_n (pc := 11) dX8_yearStart_11 rfl 0 rfl ?_
  refine sm_iconst (pc := 12) (3 : Int32) dX8_yearStart_12 (by decide) ?_
  refine sm_iadd (pc := 13) dX8_yearStart_13 ?_
  refine sm_iconst (pc := 14) (4 : Int32) dX8_yearStart_14 (by decide) ?_
  refine sm_idivc (pc := 15) dX8_yearStart_15 (by decide) ?_
  refine sm_iadd (pc := 16) dX8_yearStart_16 ?_
  exact sm_retI (pc := 17) dX8_yearStart_17
set_option maxRecDepth 20000 in
set_option maxHeartbeats 4000000 in
theorem m_X8_yearStart (Z : ZT) (l : Launch) (a1 : Int32) (S : St) {r : Int32} {S' : St} (h : F_X8_yearStart a1 S = some (r, S')) : MetX Z l yX8_yearStart cX8_yearStart 2 (some .int) rm_X8_yearStart [.int a1] S (eI r) S' := Sim.met (by decide +kernel) rfl (Nat.le_of_ble_eq_true rfl) (s_X8_yearStart Z a1 S) l h
set_option maxRecDepth 20000 in
set_option maxHeartbeats 4000000 in
theorem sB_X8_monthAndDay_14 (Z : ZT) (rec14 : (Int32 → Int32 → Int32 → St → Option (Int32 × St))) (h14 : ∀ (x1 : Int32) (x2 : Int32) (x3 : Int32)  (S : St), Sim eI Z rm_X8_monthAndDay RX8 cX8_monthAndDay 4 (some .int) 14 [(1, .int x1), (2, .int x2), (3, .int x3)] [] S (rec14 x1 x2 x3 S)) (x1 : Int32) (x2 : Int32) (x3 : Int32)  (S : St) : Sim eI Z rm_X8_monthAndDay RX8 cX8_monthAndDay 4 (some .int) 14 [(1, .int x1), (2, .int x2), (3, .int x3)] [] S (B_X8_monthAndDay_14 rec14 x1 x2 x3 S) := by
  unfold B_X8_monthAndDay_14
  refine sm_iload_n (pc := 14) dX8_monthAndDay_14 rfl 1 rfl ?_
  refine sm_iload_n (pc := 15) dX8_monthAndDay_15 rfl 0 rfl ?_
  refine sm_iload_n (pc := 16) dX8_monthAndDay_16 rfl 2 rfl ?_
  refine sm_callSI (pc := 17) [.int x1, .int x3] (fun lq rq Sq hq => m_X8_lastOf Z lq x1 x3 S hq) dX8_monthAndDay_17 mi_X8_lastOf ml_RX8_79 ⟨Nat.le_of_ble_eq_true rfl, Nat.le_of_ble_eq_true rfl, rfl, rfl⟩ rfl (Nat.le_of_ble_eq_true rfl) rfl (fun r17 S17 => ?_)
  refine sm_icmp_lt 37 (pc := 20) dX8_monthAndDay_20 rfl ?_ ?_
  · refine sm_bipush (pc := 37) (100 : Int32) dX8_monthAndDay_37 (by decide) ?_
    refine sm_iload_n (pc := 39) dX8_monthAndDay_39 rfl 2 rfl ?_
    refine sm_imul (pc := 40) dX8_monthAndDay_40 ?_
    refine sm_iload_n (pc := 41) dX8_monthAndDay_41 rfl 1 rfl ?_
    refine sm_iadd (pc := 42) dX8_monthAndDay_42 ?_
    refine sm_iconst (pc := 43) (1 : Int32) dX8_monthAndDay_43 (by decide) ?_
    refine sm_iadd (pc := 44) dX8_monthAndDay_44 ?_
    exact sm_retI (pc := 45) dX8_monthAndDay_45
  refine sm_iload_n (pc := 23) dX8_monthAndDay_23 rfl 1 rfl ?_
  refine sm_iload_n (pc := 24) dX8_monthAndDay_24 rfl 0 rfl ?_
  refine sm_iload_n (pc := 25) dX8_monthAndDay_25 rfl 2 rfl ?_
  refine sm_callSI (pc := 26) [.int x1, .int x3] (fun lq rq Sq hq => m_X8_lastOf Z lq x1 x3 S17 hq) dX8_monthAndDay_26 mi_X8_lastOf ml_RX8_79 ⟨Nat.le_of_ble_eq_true rfl, Nat.le_of_ble_eq_true rfl, rfl, rfl⟩ rfl (Nat.le_of_ble_eq_true rfl) rfl (fun r26 S26 => ?_)
  refine sm_isub (pc := 29) dX8_monthAndDay_29 ?_
  refine sm_bdI (fun v30 => ?_)
  refine sm_istore_n (pc := 30) (lv' := [(2, .int v30), (1, .int x1), (3, .int x3)]) dX8_monthAndDay_30 rfl (by decide) rfl ?_
  refine sm_iinc (pc := 31) (x3 + 1) (lv' := [(3, .int (x3 + 1)), (2, .int v30), (1, .int x1)]) dX8_monthAndDay_31 2 rfl rfl (by decide) rfl ?_
  refine sm_goto 14 (pc := 34) dX8_monthAndDay_34 rfl ?_
  refine sm_sub [2, 1, 0] rfl ?_
  exact h14 x1 v30 (x3 + 1) S26
set_option maxRecDepth 20000 in
set_option maxHeartbeats 4000000 in
theorem sL_X8_monthAndDay_14 (Z : ZT)  (n : Nat) : ∀ (x1 : Int32) (x2 : Int32) (x3 : Int32)  (S : St), Sim eI Z rm_X8_monthAndDay RX8 cX8_monthAndDay 4 (some .int) 14 [(1, .int x1), (2, .int x2), (3, .int x3)] [] S (L_X8_monthAndDay_14  n x1 x2 x3 S) := by
  induction n with
  | zero => intros; exact sm_none
  | succ n ih => intro x1 x2 x3 S; exact sB_X8_monthAndDay_14 Z  (L_X8_monthAndDay_14  n) ih x1 x2 x3 S
set_option maxRecDepth 20000 in
set_option maxHeartbeats 4000000 in
theorem s_X8_monthAndDay (Z : ZT) (a1 : Int32) (S : St) : Sim eI Z rm_X8_monthAndDay RX8 cX8_monthAndDay 4 (some .int) 0 [(0, .int a1)] [] S (F_X8_monthAndDay a1 S) := by
  unfold F_X8_monthAndDay
  refine sm_iload_n (pc := 0) dX8_monthAndDay_0 rfl 0 rfl ?_
  refine sm_callSI (pc := 1) [.int a1] (fun lq rq Sq hq => m_X8_yearOf Z lq a1 S hq) dX8_monthAndDay_1 mi_X8_yearOf ml_RX8_72 ⟨Nat.le_of_ble_eq_true rfl, Nat.le_of_ble_eq_true rfl, rfl, rfl⟩ rfl (Nat.le_of_ble_eq_true rfl) rfl (fun r1 S1 => ?_)
  refine sm_istore_n (pc := 4) (lv' := [(1, .int r1), (0, .int a1)]) dX8_monthAndDay_4 rfl (by decide) rfl ?_
  refine sm_iload_n (pc := 5) dX8_monthAndDay_5 rfl 1 rfl ?_
  refine sm_iload_n (pc := 6) dX8_monthAndDay_6 rfl 0 rfl ?_
  refine sm_callSI (pc := 7) [.int r1] (fun lq rq Sq hq => m_X8_yearStart Z lq r1 S1 hq) dX8_monthAndDay_7 mi_X8_yearStart ml_RX8_76 ⟨Nat.le_of_ble_eq_true rfl, Nat.le_of_ble_eq_true rfl, rfl, rfl⟩ rfl (Nat.le_of_ble_eq_true rfl) rfl (fun r7 S7 => ?_)
  refine sm_isub (pc := 10) dX8_monthAndDay_10 ?_
  refine sm_bdI (fun v11 => ?_)
  refine sm_istore_n (pc := 11) (lv' := [(2, .int v11), (1, .int r1), (0, .int a1)]) dX8_monthAndDay_11 rfl (by decide) rfl ?_
  refine sm_iconst (pc := 12) (1 : Int32) dX8_monthAndDay_12 (by decide) ?_
  refine sm_istore_n (pc := 13) (lv' := [(3, .int (1 : Int32)), (2, .int v11), (1, .int r1), (0, .int a1)]) dX8_monthAndDay_13 rfl (by decide) rfl ?_
  refine sm_sub [2, 1, 0] rfl ?_
  exact sL_X8_monthAndDay_14 Z  6000 r1 v11 (1 : Int32) S7
set_option maxRecDepth 20000 in
set_option maxHeartbeats 4000000 in
theorem m_X8_monthAndDay (Z : ZT) (l : Launch) (a1 : Int32) (S : St) {r : Int32} {S' : St} (h : F_X8_monthAndDay a1 S = some (r, S')) : MetX Z l yX8_monthAndDay cX8_monthAndDay 4 (some .int) rm_X8_monthAndDay [.int a1] S (eI r) S' := Sim.met (by decide +kernel) rfl (Nat.le_of_ble_eq_true rfl) (s_X8_monthAndDay Z a1 S) l h
set_option maxRecDepth 20000 in
set_option maxHeartbeats 4000000 in
theorem sB_X8_toDay_12 (Z : ZT) (rec12 : (Int32 → Int32 → Int32 → Int32 → St → Option (Int32 × St))) (h12 : ∀ (x0 : Int32) (x1 : Int32) (x3 : Int32) (x4 : Int32)  (S : St), Sim eI Z rm_X8_toDay RX8 cX8_toDay 5 (some .int) 12 [(0, .int x0), (1, .int x1), (3, .int x3), (4, .int x4)] [] S (rec12 x0 x1 x3 x4 S)) (x0 : Int32) (x1 : Int32) (x3 : Int32) (x4 : Int32)  (S : St) : Sim eI Z rm_X8_toDay RX8 cX8_toDay 5 (some .int) 12 [(0, .int x0), (1, .int x1), (3, .int x3), (4, .int x4)] [] S (B_X8_toDay_12 rec12 x0 x1 x3 x4 S) := by
  unfold B_X8_toDay_12
  refine sm_iload (pc := 12) dX8_toDay_12 3 rfl ?_
  refine sm_iload_n (pc := 14) dX8_toDay_14 rfl 1 rfl ?_
  refine sm_icmp_ge 33 (pc := 15) dX8_toDay_15 rfl ?_ ?_
  · refine sm_iload_n (pc := 33) dX8_toDay_33 rfl 2 rfl ?_
    exact sm_retI (pc := 34) dX8_toDay_34
  refine sm_iload_n (pc := 18) dX8_toDay_18 rfl 2 rfl ?_
  refine sm_iload_n (pc := 19) dX8_toDay_19 rfl 0 rfl ?_
  refine sm_iload (pc := 20) dX8_toDay_20 3 rfl ?_
  refine sm_callSI (pc := 22) [.int x0, .int x4] (fun lq rq Sq hq => m_X8_lastOf Z lq x0 x4 S hq) dX8_toDay_22 mi_X8_lastOf ml_RX8_79 ⟨Nat.le_of_ble_eq_true rfl, Nat.le_of_ble_eq_true rfl, rfl, rfl⟩ rfl (Nat.le_of_ble_eq_true rfl) rfl (fun r22 S22 => ?_)
  refine sm_iadd (pc := 25) dX8_toDay_25 ?_
  refine sm_bdI (fun v26 => ?_)
  refine sm_istore_n (pc := 26) (lv' := [(3, .int v26), (0, .int x0), (1, .int x1), (4, .int x4)]) dX8_toDay_26 rfl (by decide) rfl ?_
  refine sm_iinc (pc := 27) (x4 + 1) (lv' := [(4, .int (x4 + 1)), (3, .int v26), (0, .int x0), (1, .int x1)]) dX8_toDay_27 3 rfl rfl (by decide) rfl ?_
  refine sm_goto 12 (pc := 30) dX8_toDay_30 rfl ?_
  refine sm_sub [2, 3, 1, 0] rfl ?_
  exact h12 x0 x1 v26 (x4 + 1) S22
set_option maxRecDepth 20000 in
set_option maxHeartbeats 4000000 in
theorem sL_X8_toDay_12 (Z : ZT)  (n : Nat) : ∀ (x0 : Int32) (x1 : Int32) (x3 : Int32) (x4 : Int32)  (S : St), Sim eI Z rm_X8_toDay RX8 cX8_toDay 5 (some .int) 12 [(0, .int x0), (1, .int x1), (3, .int x3), (4, .int x4)] [] S (L_X8_toDay_12  n x0 x1 x3 x4 S) := by
  induction n with
  | zero => intros; exact sm_none
  | succ n ih => intro x0 x1 x3 x4 S; exact sB_X8_toDay_12 Z  (L_X8_toDay_12  n) ih x0 x1 x3 x4 S
set_option maxRecDepth 20000 in
set_option maxHeartbeats 4000000 in
theorem s_X8_toDay (Z : ZT) (a1 : Int32) (a2 : Int32) (a3 : Int32) (S : St) : Sim eI Z rm_X8_toDay RX8 cX8_toDay 5 (some .int) 0 [(0, .int a1), (1, .int a2), (2, .int a3)] [] S (F_X8_toDay a1 a2 a3 S) := by
  unfold F_X8_toDay
  refine sm_iload_n (pc := 0) dX8_toDay_0 rfl 0 rfl ?_
  refine sm_callSI (pc := 1) [.int a1] (fun lq rq Sq hq => m_X8_yearStart Z lq a1 S hq) dX8_toDay_1 mi_X8_yearStart ml_RX8_76 ⟨Nat.le_of_ble_eq_true rfl, Nat.le_of_ble_eq_true rfl, rfl, rfl⟩ rfl (Nat.le_of_ble_eq_true rfl) rfl (fun r1 S1 => ?_)
  refine sm_iload_n (pc := 4) dX8_toDay_4 rfl 2 rfl ?_
  refine sm_iadd (pc := 5) dX8_toDay_5 ?_
  refine sm_iconst (pc := 6) (1 : Int32) dX8_toDay_6 (by decide) ?_
  refine sm_isub (pc := 7) dX8_toDay_7 ?_
  refine sm_bdI (fun v8 => ?_)
  refine sm_istore_n (pc := 8) (lv' := [(3, .int v8), (0, .int a1), (1, .int a2), (2, .int a3)]) dX8_toDay_8 rfl (by decide) rfl ?_
  refine sm_iconst (pc := 9) (1 : Int32) dX8_toDay_9 (by decide) ?_
  refine sm_istore (pc := 10) (lv' := [(4, .int (1 : Int32)), (3, .int v8), (0, .int a1), (1, .int a2), (2, .int a3)]) dX8_toDay_10 (by decide) rfl ?_
  refine sm_sub [2, 3, 1, 0] rfl ?_
  exact sL_X8_toDay_12 Z  6000 a1 a2 v8 (1 : Int32) S1
set_option maxRecDepth 20000 in
set_option maxHeartbeats 4000000 in
theorem m_X8_toDay (Z : ZT) (l : Launch) (a1 : Int32) (a2 : Int32) (a3 : Int32) (S : St) {r : Int32} {S' : St} (h : F_X8_toDay a1 a2 a3 S = some (r, S')) : MetX Z l yX8_toDay cX8_toDay 5 (some .int) rm_X8_toDay [.int a1, .int a2, .int a3] S (eI r) S' := Sim.met (by decide +kernel) rfl (Nat.le_of_ble_eq_true rfl) (s_X8_toDay Z a1 a2 a3 S) l h
set_option maxRecDepth 20000 in
set_option maxHeartbeats 4000000 in
theorem s_X8_isDay (Z : ZT) (a1 : Int32) (S : St) : Sim eI Z rm_X8_isDay RX8 cX8_isDay 1 (some .boolean) 0 [(0, .int a1)] [] S (F_X8_isDay a1 S) := by
  unfold F_X8_isDay
  refine sm_iload_n (pc := 0) dX8_isDay_0 rfl 0 rfl ?_
  refine sm_i2l (pc := 1) dX8_isDay_1 ?_
  refine sm_lconst (pc := 2) (0 : Int64) dX8_isDay_2 (by decide) ?_
  refine sm_ldc2 (pc := 3) (36524 : Int64) dX8_isDay_3 kc_RX8_83 ?_
  refine sm_callSI (pc := 6) [.long (Int32.toInt64 a1), .long (0 : Int64), .long (36524 : Int64)] (fun lq rq Sq hq => m_X8_in Z lq (Int32.toInt64 a1) (0 : Int64) (36524 : Int64) S hq) dX8_isDay_6 mi_X8_in ml_RX8_85 ⟨Nat.le_of_ble_eq_true rfl, Nat.le_of_ble_eq_true rfl, rfl, rfl⟩ rfl (Nat.le_of_ble_eq_true rfl) rfl (fun r6 S6 => ?_)
  exact sm_retZ (pc := 9) dX8_isDay_9
set_option maxRecDepth 20000 in
set_option maxHeartbeats 4000000 in
theorem m_X8_isDay (Z : ZT) (l : Launch) (a1 : Int32) (S : St) {r : Int32} {S' : St} (h : F_X8_isDay a1 S = some (r, S')) : MetX Z l yX8_isDay cX8_isDay 1 (some .boolean) rm_X8_isDay [.int a1] S (eI r) S' := Sim.met (by decide +kernel) rfl (Nat.le_of_ble_eq_true rfl) (s_X8_isDay Z a1 S) l h
set_option maxRecDepth 20000 in
set_option maxHeartbeats 4000000 in
theorem sJ_X8_date_19 (Z : ZT)    (S : St) : Sim eI Z rm_X8_date RX8 cX8_date 5 (some .int) 19 [] [] S (J_X8_date_19  S) := by
  unfold J_X8_date_19
  refine sm_iconst (pc := 19) (-1 : Int32) dX8_date_19 (by decide) ?_
  exact sm_retI (pc := 20) dX8_date_20
set_option maxRecDepth 20000 in
set_option maxHeartbeats 4000000 in
theorem sJ_X8_date_78 (Z : ZT)   (t0 : Int32) (S : St) : Sim eI Z rm_X8_date RX8 cX8_date 5 (some .int) 78 [] [.int t0] S (J_X8_date_78  t0 S) := by
  unfold J_X8_date_78
  exact sm_retI (pc := 78) dX8_date_78
set_option maxRecDepth 20000 in
set_option maxHeartbeats 4000000 in
theorem s_X8_date (Z : ZT) (c : Nat) (a1 : Int32) (a2 : Int32) (S : St) : Sim eI Z rm_X8_date RX8 cX8_date 5 (some .int) 0 [(0, .ref c), (1, .int a1), (2, .int a2)] [] S (F_X8_date c a1 a2 S) := by
  unfold F_X8_date
  refine sm_iload_n (pc := 0) dX8_date_0 rfl 1 rfl ?_
  refine sm_callSI (pc := 1) [.int a1] (fun lq rq Sq hq => m_X8_isDay Z lq a1 S hq) dX8_date_1 mi_X8_isDay ml_RX8_89 ⟨Nat.le_of_ble_eq_true rfl, Nat.le_of_ble_eq_true rfl, rfl, rfl⟩ rfl (Nat.le_of_ble_eq_true rfl) rfl (fun r1 S1 => ?_)
  refine sm_if_eq 19 (pc := 4) dX8_date_4 rfl ?_ ?_
  · refine sm_sub [] rfl ?_
    exact sJ_X8_date_19 Z  S1
  refine sm_iload_n (pc := 7) dX8_date_7 rfl 2 rfl ?_
  refine sm_i2l (pc := 8) dX8_date_8 ?_
  refine sm_lconst (pc := 9) (0 : Int64) dX8_date_9 (by decide) ?_
  refine sm_ldc2 (pc := 10) (3 : Int64) dX8_date_10 kc_RX8_92 ?_
  refine sm_callSI (pc := 13) [.long (Int32.toInt64 a2), .long (0 : Int64), .long (3 : Int64)] (fun lq rq Sq hq => m_X8_in Z lq (Int32.toInt64 a2) (0 : Int64) (3 : Int64) S1 hq) dX8_date_13 mi_X8_in ml_RX8_85 ⟨Nat.le_of_ble_eq_true rfl, Nat.le_of_ble_eq_true rfl, rfl, rfl⟩ rfl (Nat.le_of_ble_eq_true rfl) rfl (fun r13 S13 => ?_)
  refine sm_if_ne 21 (pc := 16) dX8_date_16 rfl ?_ ?_
  · refine sm_iload_n (pc := 21) dX8_date_21 rfl 1 rfl ?_
    refine sm_callSI (pc := 22) [.int a1] (fun lq rq Sq hq => m_X8_yearOf Z lq a1 S13 hq) dX8_date_22 mi_X8_yearOf ml_RX8_72 ⟨Nat.le_of_ble_eq_true rfl, Nat.le_of_ble_eq_true rfl, rfl, rfl⟩ rfl (Nat.le_of_ble_eq_true rfl) rfl (fun r22 S22 => ?_)
    refine sm_istore_n (pc := 25) (lv' := [(3, .int r22), (0, .ref c), (1, .int a1), (2, .int a2)]) dX8_date_25 rfl (by decide) rfl ?_
    refine sm_iload_n (pc := 26) dX8_date_26 rfl 2 rfl ?_
    refine sm_callSI (pc := 27) [.int a1] (fun lq rq Sq hq => m_X8_monthAndDay Z lq a1 S22 hq) dX8_date_27 mi_X8_monthAndDay ml_RX8_94 ⟨Nat.le_of_ble_eq_true rfl, Nat.le_of_ble_eq_true rfl, rfl, rfl⟩ rfl (Nat.le_of_ble_eq_true rfl) rfl (fun r27 S27 => ?_)
    refine sm_istore (pc := 30) (lv' := [(4, .int r27), (3, .int r22), (0, .ref c), (1, .int a1), (2, .int a2)]) dX8_date_30 (by decide) rfl ?_
    refine sm_iload_n (pc := 32) dX8_date_32 rfl 4 rfl ?_
    refine sm_if_ne 40 (pc := 33) dX8_date_33 rfl ?_ ?_
    · refine sm_iload_n (pc := 40) dX8_date_40 rfl 4 rfl ?_
      refine sm_iconst (pc := 41) (1 : Int32) dX8_date_41 (by decide) ?_
      refine sm_icmp_ne 53 (pc := 42) dX8_date_42 rfl ?_ ?_
      · refine sm_iload_n (pc := 53) dX8_date_53 rfl 4 rfl ?_
        refine sm_iconst (pc := 54) (2 : Int32) dX8_date_54 (by decide) ?_
        refine sm_icmp_ne 66 (pc := 55) dX8_date_55 rfl ?_ ?_
        · refine sm_iload_n (pc := 66) dX8_date_66 rfl 1 rfl ?_
          refine sm_callSI (pc := 67) [.int r22] (fun lq rq Sq hq => m_X8_isLeap Z lq r22 S27 hq) dX8_date_67 mi_X8_isLeap ml_RX8_68 ⟨Nat.le_of_ble_eq_true rfl, Nat.le_of_ble_eq_true rfl, rfl, rfl⟩ rfl (Nat.le_of_ble_eq_true rfl) rfl (fun r67 S67 => ?_)
          refine sm_if_eq 77 (pc := 70) dX8_date_70 rfl ?_ ?_
          · refine sm_iconst (pc := 77) (0 : Int32) dX8_date_77 (by decide) ?_
            refine sm_sub [] rfl ?_
            exact sJ_X8_date_78 Z  (0 : Int32) S67
          refine sm_iconst (pc := 73) (1 : Int32) dX8_date_73 (by decide) ?_
          refine sm_goto 78 (pc := 74) dX8_date_74 rfl ?_
          refine sm_sub [] rfl ?_
          exact sJ_X8_date_78 Z  (1 : Int32) S67
        refine sm_iload (pc := 58) dX8_date_58 0 rfl ?_
        refine sm_bipush (pc := 60) (100 : Int32) dX8_date_60 (by decide) ?_
        refine sm_iremc (pc := 62) dX8_date_62 (by decide) ?_
        refine sm_goto 78 (pc := 63) dX8_date_63 rfl ?_
        refine sm_sub [] rfl ?_
        exact sJ_X8_date_78 Z  (r27 - r27 / (100 : Int32) * (100 : Int32)) S27
      refine sm_iload (pc := 45) dX8_date_45 0 rfl ?_
      refine sm_bipush (pc := 47) (100 : Int32) dX8_date_47 (by decide) ?_
      refine sm_idivc (pc := 49) dX8_date_49 (by decide) ?_
      refine sm_goto 78 (pc := 50) dX8_date_50 rfl ?_
      refine sm_sub [] rfl ?_
      exact sJ_X8_date_78 Z  (r27 / (100 : Int32)) S27
    refine sm_iload_n (pc := 36) dX8_date_36 rfl 1 rfl ?_
    refine sm_goto 78 (pc := 37) dX8_date_37 rfl ?_
    refine sm_sub [] rfl ?_
    exact sJ_X8_date_78 Z  r22 S27
  refine sm_sub [] rfl ?_
  exact sJ_X8_date_19 Z  S13
set_option maxRecDepth 20000 in
set_option maxHeartbeats 4000000 in
theorem m_X8_date (Z : ZT) (l : Launch) (c : Nat) (a1 : Int32) (a2 : Int32) (S : St) {r : Int32} {S' : St} (h : F_X8_date c a1 a2 S = some (r, S')) : MetX Z l yX8_date cX8_date 5 (some .int) rm_X8_date [.ref c, .int a1, .int a2] S (eI r) S' := Sim.met (by decide +kernel) rfl (Nat.le_of_ble_eq_true rfl) (s_X8_date Z c a1 a2 S) l h
set_option maxRecDepth 20000 in
set_option maxHeartbeats 4000000 in
theorem sJ_X8_dayOf_62 (Z : ZT)   (t0 : Int32) (S : St) : Sim eI Z rm_X8_dayOf RX8 cX8_dayOf 5 (some .int) 62 [] [.int t0] S (J_X8_dayOf_62  t0 S) := by
  unfold J_X8_dayOf_62
  exact sm_retI (pc := 62) dX8_dayOf_62
set_option maxRecDepth 20000 in
set_option maxHeartbeats 4000000 in
theorem sJ_X8_dayOf_45 (Z : ZT)  (x1 : Int32) (x2 : Int32) (x3 : Int32) (t0 : Int32) (S : St) : Sim eI Z rm_X8_dayOf RX8 cX8_dayOf 5 (some .int) 45 [(1, .int x1), (2, .int x2), (3, .int x3)] [.int t0] S (J_X8_dayOf_45  x1 x2 x3 t0 S) := by
  unfold J_X8_dayOf_45
  refine sm_istore (pc := 45) (lv' := [(4, .int t0), (1, .int x1), (2, .int x2), (3, .int x3)]) dX8_dayOf_45 (by decide) rfl ?_
  refine sm_iload (pc := 47) dX8_dayOf_47 0 rfl ?_
  refine sm_if_eq 61 (pc := 49) dX8_dayOf_49 rfl ?_ ?_
  · refine sm_iconst (pc := 61) (-1 : Int32) dX8_dayOf_61 (by decide) ?_
    refine sm_sub [] rfl ?_
    exact sJ_X8_dayOf_62 Z  (-1 : Int32) S
  refine sm_iload_n (pc := 52) dX8_dayOf_52 rfl 1 rfl ?_
  refine sm_iload_n (pc := 53) dX8_dayOf_53 rfl 2 rfl ?_
  refine sm_iload_n (pc := 54) dX8_dayOf_54 rfl 3 rfl ?_
  refine sm_callSI (pc := 55) [.int x1, .int x2, .int x3] (fun lq rq Sq hq => m_X8_toDay Z lq x1 x2 x3 S hq) dX8_dayOf_55 mi_X8_toDay ml_RX8_103 ⟨Nat.le_of_ble_eq_true rfl, Nat.le_of_ble_eq_true rfl, rfl, rfl⟩ rfl (Nat.le_of_ble_eq_true rfl) rfl (fun r55 S55 => ?_)
  refine sm_goto 62 (pc := 58) dX8_dayOf_58 rfl ?_
  refine sm_sub [] rfl ?_
  exact sJ_X8_dayOf_62 Z  r55 S55
set_option maxRecDepth 20000 in
set_option maxHeartbeats 4000000 in
theorem sJ_X8_dayOf_44 (Z : ZT)  (x1 : Int32) (x2 : Int32) (x3 : Int32)  (S : St) : Sim eI Z rm_X8_dayOf RX8 cX8_dayOf 5 (some .int) 44 [(1, .int x1), (2, .int x2), (3, .int x3)] [] S (J_X8_dayOf_44  x1 x2 x3 S) := by
  unfold J_X8_dayOf_44
  refine sm_iconst (pc := 44) (0 : Int32) dX8_dayOf_44 (by decide) ?_
  refine sm_sub [0, 1, 2] rfl ?_
  exact sJ_X8_dayOf_45 Z  x1 x2 x3 (0 : Int32) S
set_option maxRecDepth 20000 in
set_option maxHeartbeats 4000000 in
theorem s_X8_dayOf (Z : ZT) (c : Nat) (a1 : Int32) (a2 : Int32) (a3 : Int32) (S : St) : Sim eI Z rm_X8_dayOf RX8 cX8_dayOf 5 (some .int) 0 [(0, .ref c), (1, .int a1), (2, .int a2), (3, .int a3)] [] S (F_X8_dayOf c a1 a2 a3 S) := by
  unfold F_X8_dayOf
  refine sm_iload_n (pc := 0) dX8_dayOf_0 rfl 1 rfl ?_
  refine sm_i2l (pc := 1) dX8_dayOf_1 ?_
  refine sm_ldc2 (pc := 2) (2000 : Int64) dX8_dayOf_2 kc_RX8_97 ?_
  refine sm_ldc2 (pc := 5) (2099 : Int64) dX8_dayOf_5 kc_RX8_99 ?_
  refine sm_callSI (pc := 8) [.long (Int32.toInt64 a1), .long (2000 : Int64), .long (2099 : Int64)] (fun lq rq Sq hq => m_X8_in Z lq (Int32.toInt64 a1) (2000 : Int64) (2099 : Int64) S hq) dX8_dayOf_8 mi_X8_in ml_RX8_85 ⟨Nat.le_of_ble_eq_true rfl, Nat.le_of_ble_eq_true rfl, rfl, rfl⟩ rfl (Nat.le_of_ble_eq_true rfl) rfl (fun r8 S8 => ?_)
  refine sm_if_eq 44 (pc := 11) dX8_dayOf_11 rfl ?_ ?_
  · refine sm_sub [1, 2, 3] rfl ?_
    exact sJ_X8_dayOf_44 Z  a1 a2 a3 S8
  refine sm_iload_n (pc := 14) dX8_dayOf_14 rfl 2 rfl ?_
  refine sm_i2l (pc := 15) dX8_dayOf_15 ?_
  refine sm_lconst (pc := 16) (1 : Int64) dX8_dayOf_16 (by decide) ?_
  refine sm_ldc2 (pc := 17) (12 : Int64) dX8_dayOf_17 kc_RX8_101 ?_
  refine sm_callSI (pc := 20) [.long (Int32.toInt64 a2), .long (1 : Int64), .long (12 : Int64)] (fun lq rq Sq hq => m_X8_in Z lq (Int32.toInt64 a2) (1 : Int64) (12 : Int64) S8 hq) dX8_dayOf_20 mi_X8_in ml_RX8_85 ⟨Nat.le_of_ble_eq_true rfl, Nat.le_of_ble_eq_true rfl, rfl, rfl⟩ rfl (Nat.le_of_ble_eq_true rfl) rfl (fun r20 S20 => ?_)
  refine sm_if_eq 44 (pc := 23) dX8_dayOf_23 rfl ?_ ?_
  · refine sm_sub [1, 2, 3] rfl ?_
    exact sJ_X8_dayOf_44 Z  a1 a2 a3 S20
  refine sm_iload_n (pc := 26) dX8_dayOf_26 rfl 3 rfl ?_
  refine sm_iconst (pc := 27) (1 : Int32) dX8_dayOf_27 (by decide) ?_
  refine sm_icmp_lt 44 (pc := 28) dX8_dayOf_28 rfl ?_ ?_
  · refine sm_sub [1, 2, 3] rfl ?_
    exact sJ_X8_dayOf_44 Z  a1 a2 a3 S20
  refine sm_iload_n (pc := 31) dX8_dayOf_31 rfl 3 rfl ?_
  refine sm_iload_n (pc := 32) dX8_dayOf_32 rfl 1 rfl ?_
  refine sm_iload_n (pc := 33) dX8_dayOf_33 rfl 2 rfl ?_
  refine sm_callSI (pc := 34) [.int a1, .int a2] (fun lq rq Sq hq => m_X8_lastOf Z lq a1 a2 S20 hq) dX8_dayOf_34 mi_X8_lastOf ml_RX8_79 ⟨Nat.le_of_ble_eq_true rfl, Nat.le_of_ble_eq_true rfl, rfl, rfl⟩ rfl (Nat.le_of_ble_eq_true rfl) rfl (fun r34 S34 => ?_)
  refine sm_icmp_gt 44 (pc := 37) dX8_dayOf_37 rfl ?_ ?_
  · refine sm_sub [1, 2, 3] rfl ?_
    exact sJ_X8_dayOf_44 Z  a1 a2 a3 S34
  refine sm_iconst (pc := 40) (1 : Int32) dX8_dayOf_40 (by decide) ?_
  refine sm_goto 45 (pc := 41) dX8_dayOf_41 rfl ?_
  refine sm_sub [1, 2, 3] rfl ?_
  exact sJ_X8_dayOf_45 Z  a1 a2 a3 (1 : Int32) S34
set_option maxRecDepth 20000 in
set_option maxHeartbeats 4000000 in
theorem m_X8_dayOf (Z : ZT) (l : Launch) (c : Nat) (a1 : Int32) (a2 : Int32) (a3 : Int32) (S : St) {r : Int32} {S' : St} (h : F_X8_dayOf c a1 a2 a3 S = some (r, S')) : MetX Z l yX8_dayOf cX8_dayOf 5 (some .int) rm_X8_dayOf [.ref c, .int a1, .int a2, .int a3] S (eI r) S' := Sim.met (by decide +kernel) rfl (Nat.le_of_ble_eq_true rfl) (s_X8_dayOf Z c a1 a2 a3 S) l h
set_option maxRecDepth 20000 in
set_option maxHeartbeats 4000000 in
theorem sJ_X8_monthsBehind_80 (Z : ZT)   (t0 : Int32) (t1 : Int32) (t2 : Int32) (S : St) : Sim eI Z rm_X8_monthsBehind RX8 cX8_monthsBehind 8 (some .int) 80 [] [.int t0, .int t1, .int t2] S (J_X8_monthsBehind_80  t0 t1 t2 S) := by
  unfold J_X8_monthsBehind_80
  refine sm_callSI (pc := 80) [.int t2, .int t1, .int t0] (fun lq rq Sq hq => m_X8_toDay Z lq t2 t1 t0 S hq) dX8_monthsBehind_80 mi_X8_toDay ml_RX8_103 ⟨Nat.le_of_ble_eq_true rfl, Nat.le_of_ble_eq_true rfl, rfl, rfl⟩ rfl (Nat.le_of_ble_eq_true rfl) rfl (fun r80 S80 => ?_)
  exact sm_retI (pc := 83) dX8_monthsBehind_83
set_option maxRecDepth 20000 in
set_option maxHeartbeats 4000000 in
theorem s_X8_monthsBehind (Z : ZT) (a1 : Int32) (a2 : Int32) (S : St) : Sim eI Z rm_X8_monthsBehind RX8 cX8_monthsBehind 8 (some .int) 0 [(0, .int a1), (1, .int a2)] [] S (F_X8_monthsBehind a1 a2 S) := by
  unfold F_X8_monthsBehind
  refine sm_iload_n (pc := 0) dX8_monthsBehind_0 rfl 0 rfl ?_
  refine sm_callSI (pc := 1) [.int a1] (fun lq rq Sq hq => m_X8_monthAndDay Z lq a1 S hq) dX8_monthsBehind_1 mi_X8_monthAndDay ml_RX8_94 ⟨Nat.le_of_ble_eq_true rfl, Nat.le_of_ble_eq_true rfl, rfl, rfl⟩ rfl (Nat.le_of_ble_eq_true rfl) rfl (fun r1 S1 => ?_)
  refine sm_istore_n (pc := 4) (lv' := [(2, .int r1), (0, .int a1), (1, .int a2)]) dX8_monthsBehind_4 rfl (by decide) rfl ?_
  refine sm_bipush (pc := 5) (12 : Int32) dX8_monthsBehind_5 (by decide) ?_
  refine sm_iload_n (pc := 7) dX8_monthsBehind_7 rfl 1 rfl ?_
  refine sm_callSI (pc := 8) [.int a1] (fun lq rq Sq hq => m_X8_yearOf Z lq a1 S1 hq) dX8_monthsBehind_8 mi_X8_yearOf ml_RX8_72 ⟨Nat.le_of_ble_eq_true rfl, Nat.le_of_ble_eq_true rfl, rfl, rfl⟩ rfl (Nat.le_of_ble_eq_true rfl) rfl (fun r8 S8 => ?_)
  refine sm_imul (pc := 11) dX8_monthsBehind_11 ?_
  refine sm_iload_n (pc := 12) dX8_monthsBehind_12 rfl 0 rfl ?_
  refine sm_bipush (pc := 13) (100 : Int32) dX8_monthsBehind_13 (by decide) ?_
  refine sm_idivc (pc := 15) dX8_monthsBehind_15 (by decide) ?_
  refine sm_iadd (pc := 16) dX8_monthsBehind_16 ?_
  refine sm_iconst (pc := 17) (1 : Int32) dX8_monthsBehind_17 (by decide) ?_
  refine sm_isub (pc := 18) dX8_monthsBehind_18 ?_
  refine sm_iload_n (pc := 19) dX8_monthsBehind_19 rfl 2 rfl ?_
  refine sm_iadd (pc := 20) dX8_monthsBehind_20 ?_
  refine sm_bdI (fun v21 => ?_)
  refine sm_istore_n (pc := 21) (lv' := [(3, .int v21), (2, .int r1), (0, .int a1), (1, .int a2)]) dX8_monthsBehind_21 rfl (by decide) rfl ?_
  refine sm_iload_n (pc := 22) dX8_monthsBehind_22 rfl 0 rfl ?_
  refine sm_bipush (pc := 23) (12 : Int32) dX8_monthsBehind_23 (by decide) ?_
  refine sm_idivc (pc := 25) dX8_monthsBehind_25 (by decide) ?_
  refine sm_bdI (fun v26 => ?_)
  refine sm_istore (pc := 26) (lv' := [(4, .int v26), (3, .int v21), (2, .int r1), (0, .int a1), (1, .int a2)]) dX8_monthsBehind_26 (by decide) rfl ?_
  refine sm_iload_n (pc := 28) dX8_monthsBehind_28 rfl 1 rfl ?_
  refine sm_bipush (pc := 29) (12 : Int32) dX8_monthsBehind_29 (by decide) ?_
  refine sm_iremc (pc := 31) dX8_monthsBehind_31 (by decide) ?_
  refine sm_iconst (pc := 32) (1 : Int32) dX8_monthsBehind_32 (by decide) ?_
  refine sm_iadd (pc := 33) dX8_monthsBehind_33 ?_
  refine sm_bdI (fun v34 => ?_)
  refine sm_istore (pc := 34) (lv' := [(5, .int v34), (4, .int v26), (3, .int v21), (2, .int r1), (0, .int a1), (1, .int a2)]) dX8_monthsBehind_34 (by decide) rfl ?_
  refine sm_iload (pc := 36) dX8_monthsBehind_36 1 rfl ?_
  refine sm_sipush (pc := 38) (2099 : Int32) dX8_monthsBehind_38 (by decide) ?_
  refine sm_icmp_le 47 (pc := 41) dX8_monthsBehind_41 rfl ?_ ?_
  · refine sm_iload (pc := 47) dX8_monthsBehind_47 1 rfl ?_
    refine sm_iload (pc := 49) dX8_monthsBehind_49 0 rfl ?_
    refine sm_callSI (pc := 51) [.int v26, .int v34] (fun lq rq Sq hq => m_X8_lastOf Z lq v26 v34 S8 hq) dX8_monthsBehind_51 mi_X8_lastOf ml_RX8_79 ⟨Nat.le_of_ble_eq_true rfl, Nat.le_of_ble_eq_true rfl, rfl, rfl⟩ rfl (Nat.le_of_ble_eq_true rfl) rfl (fun r51 S51 => ?_)
    refine sm_istore (pc := 54) (lv' := [(6, .int r51), (5, .int v34), (4, .int v26), (3, .int v21), (2, .int r1), (0, .int a1), (1, .int a2)]) dX8_monthsBehind_54 (by decide) rfl ?_
    refine sm_iload_n (pc := 56) dX8_monthsBehind_56 rfl 4 rfl ?_
    refine sm_bipush (pc := 57) (100 : Int32) dX8_monthsBehind_57 (by decide) ?_
    refine sm_iremc (pc := 59) dX8_monthsBehind_59 (by decide) ?_
    refine sm_bdI (fun v60 => ?_)
    refine sm_istore (pc := 60) (lv' := [(7, .int v60), (6, .int r51), (5, .int v34), (4, .int v26), (3, .int v21), (2, .int r1), (0, .int a1), (1, .int a2)]) dX8_monthsBehind_60 (by decide) rfl ?_
    refine sm_iload (pc := 62) dX8_monthsBehind_62 3 rfl ?_
    refine sm_iload (pc := 64) dX8_monthsBehind_64 2 rfl ?_
    refine sm_iload (pc := 66) dX8_monthsBehind_66 0 rfl ?_
    refine sm_iload (pc := 68) dX8_monthsBehind_68 1 rfl ?_
    refine sm_icmp_ge 78 (pc := 70) dX8_monthsBehind_70 rfl ?_ ?_
    · refine sm_iload (pc := 78) dX8_monthsBehind_78 1 rfl ?_
      refine sm_sub [] rfl ?_
      exact sJ_X8_monthsBehind_80 Z  r51 v34 v26 S51
    refine sm_iload (pc := 73) dX8_monthsBehind_73 0 rfl ?_
    refine sm_goto 80 (pc := 75) dX8_monthsBehind_75 rfl ?_
    refine sm_sub [] rfl ?_
    exact sJ_X8_monthsBehind_80 Z  v60 v34 v26 S51
  refine sm_ldc (pc := 44) (36525 : Int32) dX8_monthsBehind_44 kc_RX8_107 ?_
  exact sm_retI (pc := 46) dX8_monthsBehind_46
set_option maxRecDepth 20000 in
set_option maxHeartbeats 4000000 in
theorem m_X8_monthsBehind (Z : ZT) (l : Launch) (a1 : Int32) (a2 : Int32) (S : St) {r : Int32} {S' : St} (h : F_X8_monthsBehind a1 a2 S = some (r, S')) : MetX Z l yX8_monthsBehind cX8_monthsBehind 8 (some .int) rm_X8_monthsBehind [.int a1, .int a2] S (eI r) S' := Sim.met (by decide +kernel) rfl (Nat.le_of_ble_eq_true rfl) (s_X8_monthsBehind Z a1 a2 S) l h
set_option maxRecDepth 20000 in
set_option maxHeartbeats 4000000 in
theorem sJ_X8_leapDays_72 (Z : ZT) (rec6 : (Int32 → Int32 → Int32 → Int32 → St → Option (Int32 × St))) (h6 : ∀ (x0 : Int32) (x1 : Int32) (x2 : Int32) (x3 : Int32)  (S : St), Sim eI Z rm_X8_leapDays RX8 cX8_leapDays 8 (some .int) 6 [(0, .int x0), (1, .int x1), (2, .int x2), (3, .int x3)] [] S (rec6 x0 x1 x2 x3 S)) (x0 : Int32) (x1 : Int32) (x3 : Int32) (t0 : Int32) (t1 : Int32) (S : St) : Sim eI Z rm_X8_leapDays RX8 cX8_leapDays 8 (some .int) 72 [(0, .int x0), (1, .int x1), (3, .int x3)] [.int t0, .int t1] S (J_X8_leapDays_72 rec6 x0 x1 x3 t0 t1 S) := by
  unfold J_X8_leapDays_72
  refine sm_iadd (pc := 72) dX8_leapDays_72 ?_
  refine sm_bdI (fun v73 => ?_)
  refine sm_istore_n (pc := 73) (lv' := [(2, .int v73), (0, .int x0), (1, .int x1), (3, .int x3)]) dX8_leapDays_73 rfl (by decide) rfl ?_
  refine sm_iinc (pc := 74) (x3 + 4) (lv' := [(3, .int (x3 + 4)), (2, .int v73), (0, .int x0), (1, .int x1)]) dX8_leapDays_74 3 rfl rfl (by decide) rfl ?_
  refine sm_goto 6 (pc := 77) dX8_leapDays_77 rfl ?_
  refine sm_sub [2, 3, 1, 0] rfl ?_
  exact h6 x0 x1 v73 (x3 + 4) S
set_option maxRecDepth 20000 in
set_option maxHeartbeats 4000000 in
theorem sJ_X8_leapDays_53 (Z : ZT) (rec6 : (Int32 → Int32 → Int32 → Int32 → St → Option (Int32 × St))) (h6 : ∀ (x0 : Int32) (x1 : Int32) (x2 : Int32) (x3 : Int32)  (S : St), Sim eI Z rm_X8_leapDays RX8 cX8_leapDays 8 (some .int) 6 [(0, .int x0), (1, .int x1), (2, .int x2), (3, .int x3)] [] S (rec6 x0 x1 x2 x3 S)) (x0 : Int32) (x1 : Int32) (x2 : Int32) (x3 : Int32) (x6 : Int32) (t0 : Int32) (S : St) : Sim eI Z rm_X8_leapDays RX8 cX8_leapDays 8 (some .int) 53 [(0, .int x0), (1, .int x1), (2, .int x2), (3, .int x3), (6, .int x6)] [.int t0] S (J_X8_leapDays_53 rec6 x0 x1 x2 x3 x6 t0 S) := by
  unfold J_X8_leapDays_53
  refine sm_istore (pc := 53) (lv' := [(7, .int t0), (0, .int x0), (1, .int x1), (2, .int x2), (3, .int x3), (6, .int x6)]) dX8_leapDays_53 (by decide) rfl ?_
  refine sm_iload_n (pc := 55) dX8_leapDays_55 rfl 3 rfl ?_
  refine sm_iload (pc := 56) dX8_leapDays_56 0 rfl ?_
  refine sm_iload (pc := 58) dX8_leapDays_58 5 rfl ?_
  refine sm_icmp_le 71 (pc := 60) dX8_leapDays_60 rfl ?_ ?_
  · refine sm_iconst (pc := 71) (0 : Int32) dX8_leapDays_71 (by decide) ?_
    refine sm_sub [1, 2, 4] rfl ?_
    exact sJ_X8_leapDays_72 Z rec6 h6 x0 x1 x3 (0 : Int32) x2 S
  refine sm_iload (pc := 63) dX8_leapDays_63 0 rfl ?_
  refine sm_iload (pc := 65) dX8_leapDays_65 5 rfl ?_
  refine sm_isub (pc := 67) dX8_leapDays_67 ?_
  refine sm_goto 72 (pc := 68) dX8_leapDays_68 rfl ?_
  refine sm_sub [1, 2, 4] rfl ?_
  exact sJ_X8_leapDays_72 Z rec6 h6 x0 x1 x3 (t0 - x6) x2 S
set_option maxRecDepth 20000 in
set_option maxHeartbeats 4000000 in
theorem sJ_X8_leapDays_39 (Z : ZT) (rec6 : (Int32 → Int32 → Int32 → Int32 → St → Option (Int32 × St))) (h6 : ∀ (x0 : Int32) (x1 : Int32) (x2 : Int32) (x3 : Int32)  (S : St), Sim eI Z rm_X8_leapDays RX8 cX8_leapDays 8 (some .int) 6 [(0, .int x0), (1, .int x1), (2, .int x2), (3, .int x3)] [] S (rec6 x0 x1 x2 x3 S)) (x0 : Int32) (x1 : Int32) (x2 : Int32) (x3 : Int32) (x5 : Int32) (t0 : Int32) (S : St) : Sim eI Z rm_X8_leapDays RX8 cX8_leapDays 8 (some .int) 39 [(0, .int x0), (1, .int x1), (2, .int x2), (3, .int x3), (5, .int x5)] [.int t0] S (J_X8_leapDays_39 rec6 x0 x1 x2 x3 x5 t0 S) := by
  unfold J_X8_leapDays_39
  refine sm_istore (pc := 39) (lv' := [(6, .int t0), (0, .int x0), (1, .int x1), (2, .int x2), (3, .int x3), (5, .int x5)]) dX8_leapDays_39 (by decide) rfl ?_
  refine sm_iload (pc := 41) dX8_leapDays_41 5 rfl ?_
  refine sm_iload_n (pc := 43) dX8_leapDays_43 rfl 2 rfl ?_
  refine sm_icmp_ge 52 (pc := 44) dX8_leapDays_44 rfl ?_ ?_
  · refine sm_iload_n (pc := 52) dX8_leapDays_52 rfl 2 rfl ?_
    refine sm_sub [1, 2, 3, 4, 0] rfl ?_
    exact sJ_X8_leapDays_53 Z rec6 h6 x0 x1 x2 x3 t0 x1 S
  refine sm_iload (pc := 47) dX8_leapDays_47 5 rfl ?_
  refine sm_goto 53 (pc := 49) dX8_leapDays_49 rfl ?_
  refine sm_sub [1, 2, 3, 4, 0] rfl ?_
  exact sJ_X8_leapDays_53 Z rec6 h6 x0 x1 x2 x3 t0 x5 S
set_option maxRecDepth 20000 in
set_option maxHeartbeats 4000000 in
theorem sB_X8_leapDays_6 (Z : ZT) (rec6 : (Int32 → Int32 → Int32 → Int32 → St → Option (Int32 × St))) (h6 : ∀ (x0 : Int32) (x1 : Int32) (x2 : Int32) (x3 : Int32)  (S : St), Sim eI Z rm_X8_leapDays RX8 cX8_leapDays 8 (some .int) 6 [(0, .int x0), (1, .int x1), (2, .int x2), (3, .int x3)] [] S (rec6 x0 x1 x2 x3 S)) (x0 : Int32) (x1 : Int32) (x2 : Int32) (x3 : Int32)  (S : St) : Sim eI Z rm_X8_leapDays RX8 cX8_leapDays 8 (some .int) 6 [(0, .int x0), (1, .int x1), (2, .int x2), (3, .int x3)] [] S (B_X8_leapDays_6 rec6 x0 x1 x2 x3 S) := by
  unfold B_X8_leapDays_6
  refine sm_iload_n (pc := 6) dX8_leapDays_6 rfl 3 rfl ?_
  refine sm_sipush (pc := 7) (2096 : Int32) dX8_leapDays_7 (by decide) ?_
  refine sm_icmp_gt 80 (pc := 10) dX8_leapDays_10 rfl ?_ ?_
  · refine sm_iload_n (pc := 80) dX8_leapDays_80 rfl 2 rfl ?_
    exact sm_retI (pc := 81) dX8_leapDays_81
  refine sm_iload_n (pc := 13) dX8_leapDays_13 rfl 3 rfl ?_
  refine sm_callSI (pc := 14) [.int x3] (fun lq rq Sq hq => m_X8_yearStart Z lq x3 S hq) dX8_leapDays_14 mi_X8_yearStart ml_RX8_76 ⟨Nat.le_of_ble_eq_true rfl, Nat.le_of_ble_eq_true rfl, rfl, rfl⟩ rfl (Nat.le_of_ble_eq_true rfl) rfl (fun r14 S14 => ?_)
  refine sm_istore (pc := 17) (lv' := [(4, .int r14), (0, .int x0), (1, .int x1), (2, .int x2), (3, .int x3)]) dX8_leapDays_17 (by decide) rfl ?_
  refine sm_iload (pc := 19) dX8_leapDays_19 0 rfl ?_
  refine sm_sipush (pc := 21) (366 : Int32) dX8_leapDays_21 (by decide) ?_
  refine sm_iadd (pc := 24) dX8_leapDays_24 ?_
  refine sm_bdI (fun v25 => ?_)
  refine sm_istore (pc := 25) (lv' := [(5, .int v25), (4, .int r14), (0, .int x0), (1, .int x1), (2, .int x2), (3, .int x3)]) dX8_leapDays_25 (by decide) rfl ?_
  refine sm_iload (pc := 27) dX8_leapDays_27 1 rfl ?_
  refine sm_iload_n (pc := 29) dX8_leapDays_29 rfl 2 rfl ?_
  refine sm_icmp_le 38 (pc := 30) dX8_leapDays_30 rfl ?_ ?_
  · refine sm_iload_n (pc := 38) dX8_leapDays_38 rfl 2 rfl ?_
    refine sm_sub [2, 3, 4, 5, 0] rfl ?_
    exact sJ_X8_leapDays_39 Z rec6 h6 x0 x1 x2 x3 v25 x0 S14
  refine sm_iload (pc := 33) dX8_leapDays_33 1 rfl ?_
  refine sm_goto 39 (pc := 35) dX8_leapDays_35 rfl ?_
  refine sm_sub [2, 3, 4, 5, 0] rfl ?_
  exact sJ_X8_leapDays_39 Z rec6 h6 x0 x1 x2 x3 v25 r14 S14
set_option maxRecDepth 20000 in
set_option maxHeartbeats 4000000 in
theorem sL_X8_leapDays_6 (Z : ZT)  (n : Nat) : ∀ (x0 : Int32) (x1 : Int32) (x2 : Int32) (x3 : Int32)  (S : St), Sim eI Z rm_X8_leapDays RX8 cX8_leapDays 8 (some .int) 6 [(0, .int x0), (1, .int x1), (2, .int x2), (3, .int x3)] [] S (L_X8_leapDays_6  n x0 x1 x2 x3 S) := by
  induction n with
  | zero => intros; exact sm_none
  | succ n ih => intro x0 x1 x2 x3 S; exact sB_X8_leapDays_6 Z  (L_X8_leapDays_6  n) ih x0 x1 x2 x3 S
set_option maxRecDepth 20000 in
set_option maxHeartbeats 4000000 in
theorem s_X8_leapDays (Z : ZT) (a1 : Int32) (a2 : Int32) (S : St) : Sim eI Z rm_X8_leapDays RX8 cX8_leapDays 8 (some .int) 0 [(0, .int a1), (1, .int a2)] [] S (F_X8_leapDays a1 a2 S) := by
  unfold F_X8_leapDays
  refine sm_iconst (pc := 0) (0 : Int32) dX8_leapDays_0 (by decide) ?_
  refine sm_istore_n (pc := 1) (lv' := [(2, .int (0 : Int32)), (0, .int a1), (1, .int a2)]) dX8_leapDays_1 rfl (by decide) rfl ?_
  refine sm_sipush (pc := 2) (2000 : Int32) dX8_leapDays_2 (by decide) ?_
  refine sm_istore_n (pc := 5) (lv' := [(3, .int (2000 : Int32)), (2, .int (0 : Int32)), (0, .int a1), (1, .int a2)]) dX8_leapDays_5 rfl (by decide) rfl ?_
  refine sm_sub [2, 3, 1, 0] rfl ?_
  exact sL_X8_leapDays_6 Z  6000 a1 a2 (0 : Int32) (2000 : Int32) S
set_option maxRecDepth 20000 in
set_option maxHeartbeats 4000000 in
theorem m_X8_leapDays (Z : ZT) (l : Launch) (a1 : Int32) (a2 : Int32) (S : St) {r : Int32} {S' : St} (h : F_X8_leapDays a1 a2 S = some (r, S')) : MetX Z l yX8_leapDays cX8_leapDays 8 (some .int) rm_X8_leapDays [.int a1, .int a2] S (eI r) S' := Sim.met (by decide +kernel) rfl (Nat.le_of_ble_eq_true rfl) (s_X8_leapDays Z a1 a2 S) l h
set_option maxRecDepth 20000 in
set_option maxHeartbeats 4000000 in
theorem sJ_X8_thirties_48 (Z : ZT)  (x0 : Int32) (x1 : Int32) (x2 : Int32) (x3 : Int32) (x4 : Int32) (t0 : Int32) (S : St) : Sim eI Z rm_X8_thirties RX8 cX8_thirties 6 (some .int) 48 [(0, .int x0), (1, .int x1), (2, .int x2), (3, .int x3), (4, .int x4)] [.int t0] S (J_X8_thirties_48  x0 x1 x2 x3 x4 t0 S) := by
  unfold J_X8_thirties_48
  refine sm_istore (pc := 48) (lv' := [(5, .int t0), (0, .int x0), (1, .int x1), (2, .int x2), (3, .int x3), (4, .int x4)]) dX8_thirties_48 (by decide) rfl ?_
  refine sm_sipush (pc := 50) (360 : Int32) dX8_thirties_50 (by decide) ?_
  refine sm_iload_n (pc := 53) dX8_thirties_53 rfl 2 rfl ?_
  refine sm_callSI (pc := 54) [.int x1] (fun lq rq Sq hq => m_X8_yearOf Z lq x1 S hq) dX8_thirties_54 mi_X8_yearOf ml_RX8_72 ⟨Nat.le_of_ble_eq_true rfl, Nat.le_of_ble_eq_true rfl, rfl, rfl⟩ rfl (Nat.le_of_ble_eq_true rfl) rfl (fun r54 S54 => ?_)
  refine sm_iload_n (pc := 57) dX8_thirties_57 rfl 1 rfl ?_
  refine sm_callSI (pc := 58) [.int x0] (fun lq rq Sq hq => m_X8_yearOf Z lq x0 S54 hq) dX8_thirties_58 mi_X8_yearOf ml_RX8_72 ⟨Nat.le_of_ble_eq_true rfl, Nat.le_of_ble_eq_true rfl, rfl, rfl⟩ rfl (Nat.le_of_ble_eq_true rfl) rfl (fun r58 S58 => ?_)
  refine sm_isub (pc := 61) dX8_thirties_61 ?_
  refine sm_imul (pc := 62) dX8_thirties_62 ?_
  refine sm_bipush (pc := 63) (30 : Int32) dX8_thirties_63 (by decide) ?_
  refine sm_iload_n (pc := 65) dX8_thirties_65 rfl 4 rfl ?_
  refine sm_bipush (pc := 66) (100 : Int32) dX8_thirties_66 (by decide) ?_
  refine sm_idivc (pc := 68) dX8_thirties_68 (by decide) ?_
  refine sm_iload_n (pc := 69) dX8_thirties_69 rfl 3 rfl ?_
  refine sm_bipush (pc := 70) (100 : Int32) dX8_thirties_70 (by decide) ?_
  refine sm_idivc (pc := 72) dX8_thirties_72 (by decide) ?_
  refine sm_isub (pc := 73) dX8_thirties_73 ?_
  refine sm_imul (pc := 74) dX8_thirties_74 ?_
  refine sm_iadd (pc := 75) dX8_thirties_75 ?_
  refine sm_iload (pc := 76) dX8_thirties_76 0 rfl ?_
  refine sm_iadd (pc := 78) dX8_thirties_78 ?_
  refine sm_iload (pc := 79) dX8_thirties_79 5 rfl ?_
  refine sm_isub (pc := 81) dX8_thirties_81 ?_
  exact sm_retI (pc := 82) dX8_thirties_82
set_option maxRecDepth 20000 in
set_option maxHeartbeats 4000000 in
theorem sJ_X8_thirties_28 (Z : ZT)  (x0 : Int32) (x1 : Int32) (x2 : Int32) (x3 : Int32) (t0 : Int32) (S : St) : Sim eI Z rm_X8_thirties RX8 cX8_thirties 6 (some .int) 28 [(0, .int x0), (1, .int x1), (2, .int x2), (3, .int x3)] [.int t0] S (J_X8_thirties_28  x0 x1 x2 x3 t0 S) := by
  unfold J_X8_thirties_28
  refine sm_istore (pc := 28) (lv' := [(4, .int t0), (0, .int x0), (1, .int x1), (2, .int x2), (3, .int x3)]) dX8_thirties_28 (by decide) rfl ?_
  refine sm_iload_n (pc := 30) dX8_thirties_30 rfl 4 rfl ?_
  refine sm_bipush (pc := 31) (100 : Int32) dX8_thirties_31 (by decide) ?_
  refine sm_iremc (pc := 33) dX8_thirties_33 (by decide) ?_
  refine sm_bipush (pc := 34) (30 : Int32) dX8_thirties_34 (by decide) ?_
  refine sm_icmp_le 44 (pc := 36) dX8_thirties_36 rfl ?_ ?_
  · refine sm_iload_n (pc := 44) dX8_thirties_44 rfl 4 rfl ?_
    refine sm_bipush (pc := 45) (100 : Int32) dX8_thirties_45 (by decide) ?_
    refine sm_iremc (pc := 47) dX8_thirties_47 (by decide) ?_
    refine sm_sub [1, 2, 3, 4, 0] rfl ?_
    exact sJ_X8_thirties_48 Z  x0 x1 x2 x3 t0 (x3 - x3 / (100 : Int32) * (100 : Int32)) S
  refine sm_bipush (pc := 39) (30 : Int32) dX8_thirties_39 (by decide) ?_
  refine sm_goto 48 (pc := 41) dX8_thirties_41 rfl ?_
  refine sm_sub [1, 2, 3, 4, 0] rfl ?_
  exact sJ_X8_thirties_48 Z  x0 x1 x2 x3 t0 (30 : Int32) S
set_option maxRecDepth 20000 in
set_option maxHeartbeats 4000000 in
theorem s_X8_thirties (Z : ZT) (a1 : Int32) (a2 : Int32) (S : St) : Sim eI Z rm_X8_thirties RX8 cX8_thirties 6 (some .int) 0 [(0, .int a1), (1, .int a2)] [] S (F_X8_thirties a1 a2 S) := by
  unfold F_X8_thirties
  refine sm_iload_n (pc := 0) dX8_thirties_0 rfl 0 rfl ?_
  refine sm_callSI (pc := 1) [.int a1] (fun lq rq Sq hq => m_X8_monthAndDay Z lq a1 S hq) dX8_thirties_1 mi_X8_monthAndDay ml_RX8_94 ⟨Nat.le_of_ble_eq_true rfl, Nat.le_of_ble_eq_true rfl, rfl, rfl⟩ rfl (Nat.le_of_ble_eq_true rfl) rfl (fun r1 S1 => ?_)
  refine sm_istore_n (pc := 4) (lv' := [(2, .int r1), (0, .int a1), (1, .int a2)]) dX8_thirties_4 rfl (by decide) rfl ?_
  refine sm_iload_n (pc := 5) dX8_thirties_5 rfl 2 rfl ?_
  refine sm_callSI (pc := 6) [.int a2] (fun lq rq Sq hq => m_X8_monthAndDay Z lq a2 S1 hq) dX8_thirties_6 mi_X8_monthAndDay ml_RX8_94 ⟨Nat.le_of_ble_eq_true rfl, Nat.le_of_ble_eq_true rfl, rfl, rfl⟩ rfl (Nat.le_of_ble_eq_true rfl) rfl (fun r6 S6 => ?_)
  refine sm_istore_n (pc := 9) (lv' := [(3, .int r6), (2, .int r1), (0, .int a1), (1, .int a2)]) dX8_thirties_9 rfl (by decide) rfl ?_
  refine sm_iload_n (pc := 10) dX8_thirties_10 rfl 1 rfl ?_
  refine sm_bipush (pc := 11) (100 : Int32) dX8_thirties_11 (by decide) ?_
  refine sm_iremc (pc := 13) dX8_thirties_13 (by decide) ?_
  refine sm_bipush (pc := 14) (30 : Int32) dX8_thirties_14 (by decide) ?_
  refine sm_icmp_le 24 (pc := 16) dX8_thirties_16 rfl ?_ ?_
  · refine sm_iload_n (pc := 24) dX8_thirties_24 rfl 1 rfl ?_
    refine sm_bipush (pc := 25) (100 : Int32) dX8_thirties_25 (by decide) ?_
    refine sm_iremc (pc := 27) dX8_thirties_27 (by decide) ?_
    refine sm_sub [2, 3, 1, 0] rfl ?_
    exact sJ_X8_thirties_28 Z  a1 a2 r1 r6 (r1 - r1 / (100 : Int32) * (100 : Int32)) S6
  refine sm_bipush (pc := 19) (30 : Int32) dX8_thirties_19 (by decide) ?_
  refine sm_goto 28 (pc := 21) dX8_thirties_21 rfl ?_
  refine sm_sub [2, 3, 1, 0] rfl ?_
  exact sJ_X8_thirties_28 Z  a1 a2 r1 r6 (30 : Int32) S6
set_option maxRecDepth 20000 in
set_option maxHeartbeats 4000000 in
theorem m_X8_thirties (Z : ZT) (l : Launch) (a1 : Int32) (a2 : Int32) (S : St) {r : Int32} {S' : St} (h : F_X8_thirties a1 a2 S = some (r, S')) : MetX Z l yX8_thirties cX8_thirties 6 (some .int) rm_X8_thirties [.int a1, .int a2] S (eI r) S' := Sim.met (by decide +kernel) rfl (Nat.le_of_ble_eq_true rfl) (s_X8_thirties Z a1 a2 S) l h
set_option maxRecDepth 20000 in
set_option maxHeartbeats 4000000 in
theorem sJ_X8_interestOf_125 (Z : ZT)   (t0 : Int32) (t1 : Int64) (S : St) : Sim eL Z rm_X8_interestOf RX8 cX8_interestOf 15 (some .long) 125 [] [.int t0, .long t1] S (J_X8_interestOf_125  t0 t1 S) := by
  unfold J_X8_interestOf_125
  refine sm_i2l (pc := 125) dX8_interestOf_125 ?_
  refine sm_ladd (pc := 126) dX8_interestOf_126 ?_
  exact sm_retL (pc := 127) dX8_interestOf_127
set_option maxRecDepth 20000 in
set_option maxHeartbeats 4000000 in
theorem sJ_X8_interestOf_84 (Z : ZT)  (x0 : Int64) (x2 : Int64) (x7 : Int64) (x9 : Int64)  (S : St) : Sim eL Z rm_X8_interestOf RX8 cX8_interestOf 15 (some .long) 84 [(0, .long x0), (2, .long x2), (7, .long x7), (9, .long x9)] [] S (J_X8_interestOf_84  x0 x2 x7 x9 S) := by
  unfold J_X8_interestOf_84
  refine sm_lload_n (pc := 84) dX8_interestOf_84 rfl 0 rfl ?_
  refine sm_lload_n (pc := 85) dX8_interestOf_85 rfl 1 rfl ?_
  refine sm_lmul (pc := 86) dX8_interestOf_86 ?_
  refine sm_lload (pc := 87) dX8_interestOf_87 2 rfl ?_
  refine sm_lmul (pc := 89) dX8_interestOf_89 ?_
  refine sm_bdJ (fun v90 => ?_)
  refine sm_lstore (pc := 90) (lv' := [(11, .long v90), (0, .long x0), (2, .long x2), (7, .long x7), (9, .long x9)]) dX8_interestOf_90 (by decide) rfl ?_
  refine sm_lload (pc := 92) dX8_interestOf_92 4 rfl ?_
  refine sm_ldc2 (pc := 94) (10000 : Int64) dX8_interestOf_94 kc_RX8_122 ?_
  refine sm_lmul (pc := 97) dX8_interestOf_97 ?_
  refine sm_bdJ (fun v98 => ?_)
  refine sm_lstore (pc := 98) (lv' := [(13, .long v98), (11, .long v90), (0, .long x0), (2, .long x2), (7, .long x7), (9, .long x9)]) dX8_interestOf_98 (by decide) rfl ?_
  refine sm_lload (pc := 100) dX8_interestOf_100 1 rfl ?_
  refine sm_lload (pc := 102) dX8_interestOf_102 0 rfl ?_
  refine sm_ldiv (pc := 104) dX8_interestOf_104 ?_
  refine sm_lload (pc := 105) dX8_interestOf_105 1 rfl ?_
  refine sm_lload (pc := 107) dX8_interestOf_107 0 rfl ?_
  refine sm_lrem (pc := 109) dX8_interestOf_109 ?_
  refine sm_ldc2 (pc := 110) (2 : Int64) dX8_interestOf_110 kc_RX8_124 ?_
  refine sm_lmul (pc := 113) dX8_interestOf_113 ?_
  refine sm_lload (pc := 114) dX8_interestOf_114 0 rfl ?_
  refine sm_lcmp_lt 124 (pc := 116) dX8_interestOf_116 dX8_interestOf_117 rfl ?_ ?_
  · refine sm_iconst (pc := 124) (0 : Int32) dX8_interestOf_124 (by decide) ?_
    refine sm_sub [] rfl ?_
    exact sJ_X8_interestOf_125 Z  (0 : Int32) (v90 / v98) S
  refine sm_iconst (pc := 120) (1 : Int32) dX8_interestOf_120 (by decide) ?_
  refine sm_goto 125 (pc := 121) dX8_interestOf_121 rfl ?_
  refine sm_sub [] rfl ?_
  exact sJ_X8_interestOf_125 Z  (1 : Int32) (v90 / v98) S
set_option maxRecDepth 20000 in
set_option maxHeartbeats 4000000 in
theorem sJ_X8_interestOf_39 (Z : ZT)  (x0 : Int64) (x2 : Int64) (x4 : Int32) (x5 : Int32) (x6 : Int32) (x7 : Int64) (t0 : Int64) (S : St) : Sim eL Z rm_X8_interestOf RX8 cX8_interestOf 15 (some .long) 39 [(0, .long x0), (2, .long x2), (4, .int x4), (5, .int x5), (6, .int x6), (7, .long x7)] [.long t0] S (J_X8_interestOf_39  x0 x2 x4 x5 x6 x7 t0 S) := by
  unfold J_X8_interestOf_39
  refine sm_lstore (pc := 39) (lv' := [(9, .long t0), (0, .long x0), (2, .long x2), (4, .int x4), (5, .int x5), (6, .int x6), (7, .long x7)]) dX8_interestOf_39 (by decide) rfl ?_
  refine sm_iload (pc := 41) dX8_interestOf_41 3 rfl ?_
  refine sm_iconst (pc := 43) (3 : Int32) dX8_interestOf_43 (by decide) ?_
  refine sm_icmp_ne 84 (pc := 44) dX8_interestOf_44 rfl ?_ ?_
  · refine sm_sub [1, 2, 6, 0] rfl ?_
    exact sJ_X8_interestOf_84 Z  x0 x2 x7 t0 S
  refine sm_iload (pc := 47) dX8_interestOf_47 4 rfl ?_
  refine sm_iload (pc := 49) dX8_interestOf_49 5 rfl ?_
  refine sm_callSI (pc := 51) [.int x5, .int x6] (fun lq rq Sq hq => m_X8_leapDays Z lq x5 x6 S hq) dX8_interestOf_51 mi_X8_leapDays ml_RX8_115 ⟨Nat.le_of_ble_eq_true rfl, Nat.le_of_ble_eq_true rfl, rfl, rfl⟩ rfl (Nat.le_of_ble_eq_true rfl) rfl (fun r51 S51 => ?_)
  refine sm_i2l (pc := 54) dX8_interestOf_54 ?_
  refine sm_bdJ (fun v55 => ?_)
  refine sm_lstore (pc := 55) (lv' := [(11, .long v55), (9, .long t0), (0, .long x0), (2, .long x2), (4, .int x4), (5, .int x5), (6, .int x6), (7, .long x7)]) dX8_interestOf_55 (by decide) rfl ?_
  refine sm_lload (pc := 57) dX8_interestOf_57 0 rfl ?_
  refine sm_ldc2 (pc := 59) (365 : Int64) dX8_interestOf_59 kc_RX8_111 ?_
  refine sm_lmul (pc := 62) dX8_interestOf_62 ?_
  refine sm_iload (pc := 63) dX8_interestOf_63 6 rfl ?_
  refine sm_iload (pc := 65) dX8_interestOf_65 5 rfl ?_
  refine sm_isub (pc := 67) dX8_interestOf_67 ?_
  refine sm_i2l (pc := 68) dX8_interestOf_68 ?_
  refine sm_lload (pc := 69) dX8_interestOf_69 0 rfl ?_
  refine sm_lsub (pc := 71) dX8_interestOf_71 ?_
  refine sm_ldc2 (pc := 72) (366 : Int64) dX8_interestOf_72 kc_RX8_118 ?_
  refine sm_lmul (pc := 75) dX8_interestOf_75 ?_
  refine sm_ladd (pc := 76) dX8_interestOf_76 ?_
  refine sm_bdJ (fun v77 => ?_)
  refine sm_lstore (pc := 77) (lv' := [(7, .long v77), (11, .long v55), (9, .long t0), (0, .long x0), (2, .long x2), (4, .int x4), (5, .int x5), (6, .int x6)]) dX8_interestOf_77 (by decide) rfl ?_
  refine sm_ldc2 (pc := 79) (133590 : Int64) dX8_interestOf_79 kc_RX8_120 ?_
  refine sm_lstore (pc := 82) (lv' := [(9, .long (133590 : Int64)), (7, .long v77), (11, .long v55), (0, .long x0), (2, .long x2), (4, .int x4), (5, .int x5), (6, .int x6)]) dX8_interestOf_82 (by decide) rfl ?_
  refine sm_sub [3, 4, 1, 0] rfl ?_
  exact sJ_X8_interestOf_84 Z  x0 x2 v77 (133590 : Int64) S51
set_option maxRecDepth 20000 in
set_option maxHeartbeats 4000000 in
theorem sJ_X8_interestOf_22 (Z : ZT)  (x0 : Int64) (x2 : Int64) (x4 : Int32) (x5 : Int32) (x6 : Int32) (t0 : Int64) (S : St) : Sim eL Z rm_X8_interestOf RX8 cX8_interestOf 15 (some .long) 22 [(0, .long x0), (2, .long x2), (4, .int x4), (5, .int x5), (6, .int x6)] [.long t0] S (J_X8_interestOf_22  x0 x2 x4 x5 x6 t0 S) := by
  unfold J_X8_interestOf_22
  refine sm_lstore (pc := 22) (lv' := [(7, .long t0), (0, .long x0), (2, .long x2), (4, .int x4), (5, .int x5), (6, .int x6)]) dX8_interestOf_22 (by decide) rfl ?_
  refine sm_iload (pc := 24) dX8_interestOf_24 3 rfl ?_
  refine sm_iconst (pc := 26) (2 : Int32) dX8_interestOf_26 (by decide) ?_
  refine sm_icmp_ne 36 (pc := 27) dX8_interestOf_27 rfl ?_ ?_
  · refine sm_ldc2 (pc := 36) (360 : Int64) dX8_interestOf_36 kc_RX8_113 ?_
    refine sm_sub [1, 2, 3, 4, 5, 0] rfl ?_
    exact sJ_X8_interestOf_39 Z  x0 x2 x4 x5 x6 t0 (360 : Int64) S
  refine sm_ldc2 (pc := 30) (365 : Int64) dX8_interestOf_30 kc_RX8_111 ?_
  refine sm_goto 39 (pc := 33) dX8_interestOf_33 rfl ?_
  refine sm_sub [1, 2, 3, 4, 5, 0] rfl ?_
  exact sJ_X8_interestOf_39 Z  x0 x2 x4 x5 x6 t0 (365 : Int64) S
set_option maxRecDepth 20000 in
set_option maxHeartbeats 4000000 in
theorem s_X8_interestOf (Z : ZT) (a1 : Int64) (a2 : Int64) (a3 : Int32) (a4 : Int32) (a5 : Int32) (S : St) : Sim eL Z rm_X8_interestOf RX8 cX8_interestOf 15 (some .long) 0 [(0, .long a1), (2, .long a2), (4, .int a3), (5, .int a4), (6, .int a5)] [] S (F_X8_interestOf a1 a2 a3 a4 a5 S) := by
  unfold F_X8_interestOf
  refine sm_iload (pc := 0) dX8_interestOf_0 2 rfl ?_
  refine sm_if_ne 16 (pc := 2) dX8_interestOf_2 rfl ?_ ?_
  · refine sm_iload (pc := 16) dX8_interestOf_16 4 rfl ?_
    refine sm_iload (pc := 18) dX8_interestOf_18 3 rfl ?_
    refine sm_isub (pc := 20) dX8_interestOf_20 ?_
    refine sm_i2l (pc := 21) dX8_interestOf_21 ?_
    refine sm_sub [0, 1, 2, 3, 4] rfl ?_
    exact sJ_X8_interestOf_22 Z  a1 a2 a3 a4 a5 (Int32.toInt64 (a5 - a4)) S
  refine sm_iload (pc := 5) dX8_interestOf_5 3 rfl ?_
  refine sm_iload (pc := 7) dX8_interestOf_7 4 rfl ?_
  refine sm_callSI (pc := 9) [.int a4, .int a5] (fun lq rq Sq hq => m_X8_thirties Z lq a4 a5 S hq) dX8_interestOf_9 mi_X8_thirties ml_RX8_108 ⟨Nat.le_of_ble_eq_true rfl, Nat.le_of_ble_eq_true rfl, rfl, rfl⟩ rfl (Nat.le_of_ble_eq_true rfl) rfl (fun r9 S9 => ?_)
  refine sm_i2l (pc := 12) dX8_interestOf_12 ?_
  refine sm_goto 22 (pc := 13) dX8_interestOf_13 rfl ?_
  refine sm_sub [0, 1, 2, 3, 4] rfl ?_
  exact sJ_X8_interestOf_22 Z  a1 a2 a3 a4 a5 (Int32.toInt64 r9) S9
set_option maxRecDepth 20000 in
set_option maxHeartbeats 4000000 in
theorem m_X8_interestOf (Z : ZT) (l : Launch) (a1 : Int64) (a2 : Int64) (a3 : Int32) (a4 : Int32) (a5 : Int32) (S : St) {r : Int64} {S' : St} (h : F_X8_interestOf a1 a2 a3 a4 a5 S = some (r, S')) : MetX Z l yX8_interestOf cX8_interestOf 15 (some .long) rm_X8_interestOf [.long a1, .long a2, .int a3, .int a4, .int a5] S (eL r) S' := Sim.met (by decide +kernel) rfl (Nat.le_of_ble_eq_true rfl) (s_X8_interestOf Z a1 a2 a3 a4 a5 S) l h
