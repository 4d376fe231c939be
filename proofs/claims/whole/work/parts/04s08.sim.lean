set_option maxRecDepth 20000 in
set_option maxHeartbeats 4000000 in
theorem sJ_X8_partsOf_101 (Z : ZT)    (S : St) : Sim eI Z rm_X8_partsOf RX8 cX8_partsOf 1 (some .int) 101 [] [] S (J_X8_partsOf_101  S) := by
  unfold J_X8_partsOf_101
  refine sm_iconst (pc := 101) (1 : Int32) dX8_partsOf_101 (by decide) ?_
  exact sm_retI (pc := 102) dX8_partsOf_102
set_option maxRecDepth 20000 in
set_option maxHeartbeats 4000000 in
theorem sJ_X8_partsOf_103 (Z : ZT)    (S : St) : Sim eI Z rm_X8_partsOf RX8 cX8_partsOf 1 (some .int) 103 [] [] S (J_X8_partsOf_103  S) := by
  unfold J_X8_partsOf_103
  refine sm_bipush (pc := 103) (-2 : Int32) dX8_partsOf_103 (by decide) ?_
  exact sm_retI (pc := 105) dX8_partsOf_105
set_option maxRecDepth 20000 in
set_option maxHeartbeats 4000000 in
theorem sJ_X8_partsOf_99 (Z : ZT)    (S : St) : Sim eI Z rm_X8_partsOf RX8 cX8_partsOf 1 (some .int) 99 [] [] S (J_X8_partsOf_99  S) := by
  unfold J_X8_partsOf_99
  refine sm_iconst (pc := 99) (2 : Int32) dX8_partsOf_99 (by decide) ?_
  exact sm_retI (pc := 100) dX8_partsOf_100
set_option maxRecDepth 20000 in
set_option maxHeartbeats 4000000 in
theorem s_X8_partsOf (Z : ZT) (a1 : Int32) (S : St) : Sim eI Z rm_X8_partsOf RX8 cX8_partsOf 1 (some .int) 0 [(0, .int a1)] [] S (F_X8_partsOf a1 S) := by
  unfold F_X8_partsOf
  refine sm_iload_n (pc := 0) dX8_partsOf_0 rfl 0 rfl ?_
  refine sm_tswk (pc := 1) 103 [101, 103, 101, 101, 103, 103, 103, 103, 96, 103, 103, 103, 99, 103, 99, 103, 103, 103, 103, 101] [100, 101, 102, 103, 104, 105, 106, 107, 108, 109, 110, 111, 112, 113, 114, 115, 116, 117, 118, 119] dX8_partsOf_1 rfl (by decide) (by decide) (by decide) rfl ⟨?_, ?_, ?_, ?_, ?_, ?_, ?_, ?_, ?_, ?_, ?_, ?_, ?_, ?_, ?_, ?_, ?_, ?_, ?_, ?_, trivial⟩ ?_
  · refine sm_sub [] rfl ?_
    exact sJ_X8_partsOf_101 Z  S
  · refine sm_sub [] rfl ?_
    exact sJ_X8_partsOf_103 Z  S
  · refine sm_sub [] rfl ?_
    exact sJ_X8_partsOf_101 Z  S
  · refine sm_sub [] rfl ?_
    exact sJ_X8_partsOf_101 Z  S
  · refine sm_sub [] rfl ?_
    exact sJ_X8_partsOf_103 Z  S
  · refine sm_sub [] rfl ?_
    exact sJ_X8_partsOf_103 Z  S
  · refine sm_sub [] rfl ?_
    exact sJ_X8_partsOf_103 Z  S
  · refine sm_sub [] rfl ?_
    exact sJ_X8_partsOf_103 Z  S
  · refine sm_bipush (pc := 96) (6 : Int32) dX8_partsOf_96 (by decide) ?_
    exact sm_retI (pc := 98) dX8_partsOf_98
  · refine sm_sub [] rfl ?_
    exact sJ_X8_partsOf_103 Z  S
  · refine sm_sub [] rfl ?_
    exact sJ_X8_partsOf_103 Z  S
  · refine sm_sub [] rfl ?_
    exact sJ_X8_partsOf_103 Z  S
  · refine sm_sub [] rfl ?_
    exact sJ_X8_partsOf_99 Z  S
  · refine sm_sub [] rfl ?_
    exact sJ_X8_partsOf_103 Z  S
  · refine sm_sub [] rfl ?_
    exact sJ_X8_partsOf_99 Z  S
  · refine sm_sub [] rfl ?_
    exact sJ_X8_partsOf_103 Z  S
  · refine sm_sub [] rfl ?_
    exact sJ_X8_partsOf_103 Z  S
  · refine sm_sub [] rfl ?_
    exact sJ_X8_partsOf_103 Z  S
  · refine sm_sub [] rfl ?_
    exact sJ_X8_partsOf_103 Z  S
  · refine sm_sub [] rfl ?_
    exact sJ_X8_partsOf_101 Z  S
  refine sm_sub [] rfl ?_
  exact sJ_X8_partsOf_103 Z  S
set_option maxRecDepth 20000 in
set_option maxHeartbeats 4000000 in
theorem m_X8_partsOf (Z : ZT) (l : Launch) (a1 : Int32) (S : St) {r : Int32} {S' : St} (h : F_X8_partsOf a1 S = some (r, S')) : MetX Z l yX8_partsOf cX8_partsOf 1 (some .int) rm_X8_partsOf [.int a1] S (eI r) S' := Sim.met (by decide +kernel) rfl (Nat.le_of_ble_eq_true rfl) (s_X8_partsOf Z a1 S) l h
set_option maxRecDepth 20000 in
set_option maxHeartbeats 4000000 in
theorem sJ_X8_line_60 (Z : ZT)   (t0 : Int32) (t1 : Nat) (S : St) : Sim eI Z rm_X8_line RX8 cX8_line 4 (some .int) 60 [] [.int t0, .ref t1] S (J_X8_line_60  t0 t1 S) := by
  unfold J_X8_line_60
  refine sm_putI (pc := 60) dX8_line_60 fw_RX8_282 (by decide) rfl (fun S60 => ?_)
  refine sm_iconst (pc := 63) (0 : Int32) dX8_line_63 (by decide) ?_
  exact sm_retI (pc := 64) dX8_line_64
set_option maxRecDepth 20000 in
set_option maxHeartbeats 4000000 in
theorem sB_X8_line_77 (Z : ZT) (rec77 : (Nat → Int32 → Int32 → Int32 → St → Option (Int32 × St))) (h77 : ∀ (x0 : Nat) (x1 : Int32) (x2 : Int32) (x3 : Int32)  (S : St), Sim eI Z rm_X8_line RX8 cX8_line 4 (some .int) 77 [(0, .ref x0), (1, .int x1), (2, .int x2), (3, .int x3)] [] S (rec77 x0 x1 x2 x3 S)) (x0 : Nat) (x1 : Int32) (x2 : Int32) (x3 : Int32)  (S : St) : Sim eI Z rm_X8_line RX8 cX8_line 4 (some .int) 77 [(0, .ref x0), (1, .int x1), (2, .int x2), (3, .int x3)] [] S (B_X8_line_77 rec77 x0 x1 x2 x3 S) := by
  unfold B_X8_line_77
  refine sm_iload_n (pc := 77) dX8_line_77 rfl 3 rfl ?_
  refine sm_iload_n (pc := 78) dX8_line_78 rfl 2 rfl ?_
  refine sm_icmp_ge 98 (pc := 79) dX8_line_79 rfl ?_ ?_
  · refine sm_iload_n (pc := 98) dX8_line_98 rfl 1 rfl ?_
    exact sm_retI (pc := 99) dX8_line_99
  refine sm_aload_n (pc := 82) dX8_line_82 rfl 0 rfl ?_
  refine sm_getR (pc := 83) dX8_line_83 fr_RX8_61 (by decide) rfl (fun v83 => ?_)
  refine sm_iload_n (pc := 86) dX8_line_86 rfl 3 rfl ?_
  refine sm_aload_n (pc := 87) dX8_line_87 rfl 0 rfl ?_
  refine sm_callVI (pc := 88) [] (fun lq rq Sq hq => m_X8_number Z lq x0 S hq) dX8_line_88 mi_X8_number ml_RX8_298 ⟨Nat.le_of_ble_eq_true rfl, Nat.le_of_ble_eq_true rfl, rfl, rfl⟩ rfl (by decide) rfl (Nat.le_of_ble_eq_true rfl) rfl (fun r88 S88 => ?_)
  refine sm_sI (pc := 91) dX8_line_91 (fun S91 => ?_)
  refine sm_iinc (pc := 92) (x3 + 1) (lv' := [(3, .int (x3 + 1)), (0, .ref x0), (1, .int x1), (2, .int x2)]) dX8_line_92 3 rfl rfl (by decide) rfl ?_
  refine sm_goto 77 (pc := 95) dX8_line_95 rfl ?_
  refine sm_sub [1, 2, 3, 0] rfl ?_
  exact h77 x0 x1 x2 (x3 + 1) S91
set_option maxRecDepth 20000 in
set_option maxHeartbeats 4000000 in
theorem sL_X8_line_77 (Z : ZT)  (n : Nat) : ∀ (x0 : Nat) (x1 : Int32) (x2 : Int32) (x3 : Int32)  (S : St), Sim eI Z rm_X8_line RX8 cX8_line 4 (some .int) 77 [(0, .ref x0), (1, .int x1), (2, .int x2), (3, .int x3)] [] S (L_X8_line_77  n x0 x1 x2 x3 S) := by
  induction n with
  | zero => intros; exact sm_none
  | succ n ih => intro x0 x1 x2 x3 S; exact sB_X8_line_77 Z  (L_X8_line_77  n) ih x0 x1 x2 x3 S
set_option maxRecDepth 20000 in
set_option maxHeartbeats 4000000 in
theorem sJ_X8_line_31 (Z : ZT)  (x0 : Nat) (t0 : Int32) (S : St) : Sim eI Z rm_X8_line RX8 cX8_line 4 (some .int) 31 [(0, .ref x0)] [.int t0] S (J_X8_line_31  x0 t0 S) := by
  unfold J_X8_line_31
  refine sm_istore_n (pc := 31) (lv' := [(1, .int t0), (0, .ref x0)]) dX8_line_31 rfl (by decide) rfl ?_
  refine sm_iload_n (pc := 32) dX8_line_32 rfl 0 rfl ?_
  refine sm_callSI (pc := 33) [.int t0] (fun lq rq Sq hq => m_X8_partsOf Z lq t0 S hq) dX8_line_33 mi_X8_partsOf ml_RX8_295 ⟨Nat.le_of_ble_eq_true rfl, Nat.le_of_ble_eq_true rfl, rfl, rfl⟩ rfl (Nat.le_of_ble_eq_true rfl) rfl (fun r33 S33 => ?_)
  refine sm_istore_n (pc := 36) (lv' := [(2, .int r33), (1, .int t0), (0, .ref x0)]) dX8_line_36 rfl (by decide) rfl ?_
  refine sm_iload_n (pc := 37) dX8_line_37 rfl 0 rfl ?_
  refine sm_if_ge 65 (pc := 38) dX8_line_38 rfl ?_ ?_
  · refine sm_aload_n (pc := 65) dX8_line_65 rfl 2 rfl ?_
    refine sm_dup (pc := 66) dX8_line_66 rfl ?_
    refine sm_getI (pc := 67) dX8_line_67 fr_RX8_285 (by decide) rfl (fun v67 => ?_)
    refine sm_iconst (pc := 70) (1 : Int32) dX8_line_70 (by decide) ?_
    refine sm_iadd (pc := 71) dX8_line_71 ?_
    refine sm_putI (pc := 72) dX8_line_72 fw_RX8_285 (by decide) rfl (fun S72 => ?_)
    refine sm_iconst (pc := 75) (0 : Int32) dX8_line_75 (by decide) ?_
    refine sm_istore_n (pc := 76) (lv' := [(3, .int (0 : Int32)), (2, .int r33), (1, .int t0), (0, .ref x0)]) dX8_line_76 rfl (by decide) rfl ?_
    refine sm_sub [3, 2, 1, 0] rfl ?_
    exact sL_X8_line_77 Z  6000 x0 t0 r33 (0 : Int32) S72
  refine sm_aload_n (pc := 41) dX8_line_41 rfl 2 rfl ?_
  refine sm_aload_n (pc := 42) dX8_line_42 rfl 2 rfl ?_
  refine sm_getI (pc := 43) dX8_line_43 fr_RX8_282 (by decide) rfl (fun v43 => ?_)
  refine sm_if_ge 56 (pc := 46) dX8_line_46 rfl ?_ ?_
  · refine sm_aload_n (pc := 56) dX8_line_56 rfl 2 rfl ?_
    refine sm_getI (pc := 57) dX8_line_57 fr_RX8_282 (by decide) rfl (fun v57 => ?_)
    refine sm_sub [] rfl ?_
    exact sJ_X8_line_60 Z  v57 x0 S33
  refine sm_aload_n (pc := 49) dX8_line_49 rfl 2 rfl ?_
  refine sm_getI (pc := 50) dX8_line_50 fr_RX8_285 (by decide) rfl (fun v50 => ?_)
  refine sm_goto 60 (pc := 53) dX8_line_53 rfl ?_
  refine sm_sub [] rfl ?_
  exact sJ_X8_line_60 Z  v50 x0 S33
set_option maxRecDepth 20000 in
set_option maxHeartbeats 4000000 in
theorem sJ_X8_line_30 (Z : ZT)  (x0 : Nat)  (S : St) : Sim eI Z rm_X8_line RX8 cX8_line 4 (some .int) 30 [(0, .ref x0)] [] S (J_X8_line_30  x0 S) := by
  unfold J_X8_line_30
  refine sm_iconst (pc := 30) (0 : Int32) dX8_line_30 (by decide) ?_
  refine sm_sub [0] rfl ?_
  exact sJ_X8_line_31 Z  x0 (0 : Int32) S
set_option maxRecDepth 20000 in
set_option maxHeartbeats 4000000 in
theorem s_X8_line (Z : ZT) (c : Nat) (S : St) : Sim eI Z rm_X8_line RX8 cX8_line 4 (some .int) 0 [(0, .ref c)] [] S (F_X8_line c S) := by
  unfold F_X8_line
  refine sm_aload_n (pc := 0) dX8_line_0 rfl 0 rfl ?_
  refine sm_getI (pc := 1) dX8_line_1 fr_RX8_282 (by decide) rfl (fun v1 => ?_)
  refine sm_if_ge 30 (pc := 4) dX8_line_4 rfl ?_ ?_
  · refine sm_sub [0] rfl ?_
    exact sJ_X8_line_30 Z  c S
  refine sm_aload_n (pc := 7) dX8_line_7 rfl 0 rfl ?_
  refine sm_getI (pc := 8) dX8_line_8 fr_RX8_285 (by decide) rfl (fun v8 => ?_)
  refine sm_aload_n (pc := 11) dX8_line_11 rfl 0 rfl ?_
  refine sm_getI (pc := 12) dX8_line_12 fr_RX8_279 (by decide) rfl (fun v12 => ?_)
  refine sm_icmp_ge 30 (pc := 15) dX8_line_15 rfl ?_ ?_
  · refine sm_sub [0] rfl ?_
    exact sJ_X8_line_30 Z  c S
  refine sm_aload_n (pc := 18) dX8_line_18 rfl 0 rfl ?_
  refine sm_getR (pc := 19) dX8_line_19 fr_RX8_38 (by decide) rfl (fun v19 => ?_)
  refine sm_aload_n (pc := 22) dX8_line_22 rfl 0 rfl ?_
  refine sm_getI (pc := 23) dX8_line_23 fr_RX8_285 (by decide) rfl (fun v23 => ?_)
  refine sm_aI (pc := 26) dX8_line_26 (fun v26 => ?_)
  refine sm_goto 31 (pc := 27) dX8_line_27 rfl ?_
  refine sm_sub [0] rfl ?_
  exact sJ_X8_line_31 Z  c v26 S
set_option maxRecDepth 20000 in
set_option maxHeartbeats 4000000 in
theorem m_X8_line (Z : ZT) (l : Launch) (c : Nat) (S : St) {r : Int32} {S' : St} (h : F_X8_line c S = some (r, S')) : MetX Z l yX8_line cX8_line 4 (some .int) rm_X8_line [.ref c] S (eI r) S' := Sim.met (by decide +kernel) rfl (Nat.le_of_ble_eq_true rfl) (s_X8_line Z c S) l h
set_option maxRecDepth 20000 in
set_option maxHeartbeats 4000000 in
theorem sJ_X8_isForm_62 (Z : ZT)   (t0 : Int32) (S : St) : Sim eI Z rm_X8_isForm RX8 cX8_isForm 1 (some .boolean) 62 [] [.int t0] S (J_X8_isForm_62  t0 S) := by
  unfold J_X8_isForm_62
  exact sm_retZ (pc := 62) dX8_isForm_62
set_option maxRecDepth 20000 in
set_option maxHeartbeats 4000000 in
theorem sJ_X8_isForm_50 (Z : ZT)  (x0 : Nat)  (S : St) : Sim eI Z rm_X8_isForm RX8 cX8_isForm 1 (some .boolean) 50 [(0, .ref x0)] [] S (J_X8_isForm_50  x0 S) := by
  unfold J_X8_isForm_50
  refine sm_aload_n (pc := 50) dX8_isForm_50 rfl 0 rfl ?_
  refine sm_getI (pc := 51) dX8_isForm_51 fr_RX8_282 (by decide) rfl (fun v51 => ?_)
  refine sm_if_ge 61 (pc := 54) dX8_isForm_54 rfl ?_ ?_
  · refine sm_iconst (pc := 61) (0 : Int32) dX8_isForm_61 (by decide) ?_
    refine sm_sub [] rfl ?_
    exact sJ_X8_isForm_62 Z  (0 : Int32) S
  refine sm_iconst (pc := 57) (1 : Int32) dX8_isForm_57 (by decide) ?_
  refine sm_goto 62 (pc := 58) dX8_isForm_58 rfl ?_
  refine sm_sub [] rfl ?_
  exact sJ_X8_isForm_62 Z  (1 : Int32) S
set_option maxRecDepth 20000 in
set_option maxHeartbeats 4000000 in
theorem sB_X8_isForm_15 (Z : ZT) (rec15 : (Nat → St → Option (Int32 × St))) (h15 : ∀ (x0 : Nat)  (S : St), Sim eI Z rm_X8_isForm RX8 cX8_isForm 1 (some .boolean) 15 [(0, .ref x0)] [] S (rec15 x0 S)) (x0 : Nat)  (S : St) : Sim eI Z rm_X8_isForm RX8 cX8_isForm 1 (some .boolean) 15 [(0, .ref x0)] [] S (B_X8_isForm_15 rec15 x0 S) := by
  unfold B_X8_isForm_15
  refine sm_aload_n (pc := 15) dX8_isForm_15 rfl 0 rfl ?_
  refine sm_getI (pc := 16) dX8_isForm_16 fr_RX8_282 (by decide) rfl (fun v16 => ?_)
  refine sm_if_ge 50 (pc := 19) dX8_isForm_19 rfl ?_ ?_
  · refine sm_sub [0] rfl ?_
    exact sJ_X8_isForm_50 Z  x0 S
  refine sm_aload_n (pc := 22) dX8_isForm_22 rfl 0 rfl ?_
  refine sm_getI (pc := 23) dX8_isForm_23 fr_RX8_285 (by decide) rfl (fun v23 => ?_)
  refine sm_aload_n (pc := 26) dX8_isForm_26 rfl 0 rfl ?_
  refine sm_getI (pc := 27) dX8_isForm_27 fr_RX8_279 (by decide) rfl (fun v27 => ?_)
  refine sm_icmp_ge 50 (pc := 30) dX8_isForm_30 rfl ?_ ?_
  · refine sm_sub [0] rfl ?_
    exact sJ_X8_isForm_50 Z  x0 S
  refine sm_aload_n (pc := 33) dX8_isForm_33 rfl 0 rfl ?_
  refine sm_bipush (pc := 34) (59 : Int32) dX8_isForm_34 (by decide) ?_
  refine sm_bipush (pc := 36) (59 : Int32) dX8_isForm_36 (by decide) ?_
  refine sm_callVI (pc := 38) [.int (59 : Int32), .int (59 : Int32)] (fun lq rq Sq hq => m_X8_must Z lq x0 (59 : Int32) (59 : Int32) S hq) dX8_isForm_38 mi_X8_must ml_RX8_292 ⟨Nat.le_of_ble_eq_true rfl, Nat.le_of_ble_eq_true rfl, rfl, rfl⟩ rfl (by decide) rfl (Nat.le_of_ble_eq_true rfl) rfl (fun r38 S38 => ?_)
  refine sm_pop (pc := 41) dX8_isForm_41 rfl ?_
  refine sm_aload_n (pc := 42) dX8_isForm_42 rfl 0 rfl ?_
  refine sm_callVI (pc := 43) [] (fun lq rq Sq hq => m_X8_line Z lq x0 S38 hq) dX8_isForm_43 mi_X8_line ml_RX8_302 ⟨Nat.le_of_ble_eq_true rfl, Nat.le_of_ble_eq_true rfl, rfl, rfl⟩ rfl (by decide) rfl (Nat.le_of_ble_eq_true rfl) rfl (fun r43 S43 => ?_)
  refine sm_pop (pc := 46) dX8_isForm_46 rfl ?_
  refine sm_goto 15 (pc := 47) dX8_isForm_47 rfl ?_
  refine sm_sub [0] rfl ?_
  exact h15 x0 S43
set_option maxRecDepth 20000 in
set_option maxHeartbeats 4000000 in
theorem sL_X8_isForm_15 (Z : ZT)  (n : Nat) : ∀ (x0 : Nat)  (S : St), Sim eI Z rm_X8_isForm RX8 cX8_isForm 1 (some .boolean) 15 [(0, .ref x0)] [] S (L_X8_isForm_15  n x0 S) := by
  induction n with
  | zero => intros; exact sm_none
  | succ n ih => intro x0 S; exact sB_X8_isForm_15 Z  (L_X8_isForm_15  n) ih x0 S
set_option maxRecDepth 20000 in
set_option maxHeartbeats 4000000 in
theorem s_X8_isForm (Z : ZT) (c : Nat) (S : St) : Sim eI Z rm_X8_isForm RX8 cX8_isForm 1 (some .boolean) 0 [(0, .ref c)] [] S (F_X8_isForm c S) := by
  unfold F_X8_isForm
  refine sm_aload_n (pc := 0) dX8_isForm_0 rfl 0 rfl ?_
  refine sm_iconst (pc := 1) (0 : Int32) dX8_isForm_1 (by decide) ?_
  refine sm_putI (pc := 2) dX8_isForm_2 fw_RX8_285 (by decide) rfl (fun S2 => ?_)
  refine sm_aload_n (pc := 5) dX8_isForm_5 rfl 0 rfl ?_
  refine sm_iconst (pc := 6) (-1 : Int32) dX8_isForm_6 (by decide) ?_
  refine sm_putI (pc := 7) dX8_isForm_7 fw_RX8_282 (by decide) rfl (fun S7 => ?_)
  refine sm_aload_n (pc := 10) dX8_isForm_10 rfl 0 rfl ?_
  refine sm_callVI (pc := 11) [] (fun lq rq Sq hq => m_X8_line Z lq c S7 hq) dX8_isForm_11 mi_X8_line ml_RX8_302 ⟨Nat.le_of_ble_eq_true rfl, Nat.le_of_ble_eq_true rfl, rfl, rfl⟩ rfl (by decide) rfl (Nat.le_of_ble_eq_true rfl) rfl (fun r11 S11 => ?_)
  refine sm_pop (pc := 14) dX8_isForm_14 rfl ?_
  refine sm_sub [0] rfl ?_
  exact sL_X8_isForm_15 Z  6000 c S11
set_option maxRecDepth 20000 in
set_option maxHeartbeats 4000000 in
theorem m_X8_isForm (Z : ZT) (l : Launch) (c : Nat) (S : St) {r : Int32} {S' : St} (h : F_X8_isForm c S = some (r, S')) : MetX Z l yX8_isForm cX8_isForm 1 (some .boolean) rm_X8_isForm [.ref c] S (eI r) S' := Sim.met (by decide +kernel) rfl (Nat.le_of_ble_eq_true rfl) (s_X8_isForm Z c S) l h
set_option maxRecDepth 20000 in
set_option maxHeartbeats 4000000 in
theorem sJ_X8_does_253 (Z : ZT)  (x0 : Nat) (x2 : Int32)  (S : St) : Sim eL Z rm_X8_does RX8 cX8_does 5 (some .long) 253 [(0, .ref x0), (2, .int x2)] [] S (J_X8_does_253  x0 x2 S) := by
  unfold J_X8_does_253
  refine sm_aload_n (pc := 253) dX8_does_253 rfl 0 rfl ?_
  refine sm_iconst (pc := 254) (1 : Int32) dX8_does_254 (by decide) ?_
  refine sm_iload_n (pc := 255) dX8_does_255 rfl 1 rfl ?_
  refine sm_callVI (pc := 256) [.int (1 : Int32), .int x2] (fun lq rq Sq hq => m_X8_rule Z lq x0 (1 : Int32) x2 S hq) dX8_does_256 mi_X8_rule ml_RX8_322 ⟨Nat.le_of_ble_eq_true rfl, Nat.le_of_ble_eq_true rfl, rfl, rfl⟩ rfl (by decide) rfl (Nat.le_of_ble_eq_true rfl) rfl (fun r256 S256 => ?_)
  refine sm_i2l (pc := 259) dX8_does_259 ?_
  exact sm_retL (pc := 260) dX8_does_260
set_option maxRecDepth 20000 in
set_option maxHeartbeats 4000000 in
theorem sJ_X8_does_216 (Z : ZT)   (t0 : Int64) (S : St) : Sim eL Z rm_X8_does RX8 cX8_does 5 (some .long) 216 [] [.long t0] S (J_X8_does_216  t0 S) := by
  unfold J_X8_does_216
  exact sm_retL (pc := 216) dX8_does_216
set_option maxRecDepth 20000 in
set_option maxHeartbeats 4000000 in
theorem sJ_X8_does_162 (Z : ZT)  (x0 : Nat) (x2 : Int32) (x3 : Int32) (t0 : Int32) (S : St) : Sim eL Z rm_X8_does RX8 cX8_does 5 (some .long) 162 [(0, .ref x0), (2, .int x2), (3, .int x3)] [.int t0] S (J_X8_does_162  x0 x2 x3 t0 S) := by
  unfold J_X8_does_162
  refine sm_istore (pc := 162) (lv' := [(4, .int t0), (0, .ref x0), (2, .int x2), (3, .int x3)]) dX8_does_162 (by decide) rfl ?_
  refine sm_iload (pc := 164) dX8_does_164 0 rfl ?_
  refine sm_if_eq 213 (pc := 166) dX8_does_166 rfl ?_ ?_
  · refine sm_ldc2 (pc := 213) (-1 : Int64) dX8_does_213 kc_RX8_134 ?_
    refine sm_sub [] rfl ?_
    exact sJ_X8_does_216 Z  (-1 : Int64) S
  refine sm_aload_n (pc := 169) dX8_does_169 rfl 1 rfl ?_
  refine sm_iload_n (pc := 170) dX8_does_170 rfl 2 rfl ?_
  refine sm_i2l (pc := 171) dX8_does_171 ?_
  refine sm_iload_n (pc := 172) dX8_does_172 rfl 3 rfl ?_
  refine sm_aload_n (pc := 173) dX8_does_173 rfl 1 rfl ?_
  refine sm_getR (pc := 174) dX8_does_174 fr_RX8_61 (by decide) rfl (fun v174 => ?_)
  refine sm_iconst (pc := 177) (2 : Int32) dX8_does_177 (by decide) ?_
  refine sm_aI (pc := 178) dX8_does_178 (fun v178 => ?_)
  refine sm_sipush (pc := 179) (1000 : Int32) dX8_does_179 (by decide) ?_
  refine sm_aload_n (pc := 182) dX8_does_182 rfl 1 rfl ?_
  refine sm_getR (pc := 183) dX8_does_183 fr_RX8_61 (by decide) rfl (fun v183 => ?_)
  refine sm_iconst (pc := 186) (3 : Int32) dX8_does_186 (by decide) ?_
  refine sm_aI (pc := 187) dX8_does_187 (fun v187 => ?_)
  refine sm_imul (pc := 188) dX8_does_188 ?_
  refine sm_bipush (pc := 189) (100 : Int32) dX8_does_189 (by decide) ?_
  refine sm_aload_n (pc := 191) dX8_does_191 rfl 1 rfl ?_
  refine sm_getR (pc := 192) dX8_does_192 fr_RX8_61 (by decide) rfl (fun v192 => ?_)
  refine sm_iconst (pc := 195) (5 : Int32) dX8_does_195 (by decide) ?_
  refine sm_aI (pc := 196) dX8_does_196 (fun v196 => ?_)
  refine sm_imul (pc := 197) dX8_does_197 ?_
  refine sm_iadd (pc := 198) dX8_does_198 ?_
  refine sm_aload_n (pc := 199) dX8_does_199 rfl 1 rfl ?_
  refine sm_getR (pc := 200) dX8_does_200 fr_RX8_61 (by decide) rfl (fun v200 => ?_)
  refine sm_iconst (pc := 203) (4 : Int32) dX8_does_203 (by decide) ?_
  refine sm_aI (pc := 204) dX8_does_204 (fun v204 => ?_)
  refine sm_iadd (pc := 205) dX8_does_205 ?_
  refine sm_callVI (pc := 206) [.long (Int32.toInt64 x2), .int x3, .int v178, .int ((((1000 : Int32) * v187) + ((100 : Int32) * v196)) + v204)] (fun lq rq Sq hq => m_X8_loan Z lq x0 (Int32.toInt64 x2) x3 v178 ((((1000 : Int32) * v187) + ((100 : Int32) * v196)) + v204) S hq) dX8_does_206 mi_X8_loan ml_RX8_305 ⟨Nat.le_of_ble_eq_true rfl, Nat.le_of_ble_eq_true rfl, rfl, rfl⟩ rfl (by decide) rfl (Nat.le_of_ble_eq_true rfl) rfl (fun r206 S206 => ?_)
  refine sm_i2l (pc := 209) dX8_does_209 ?_
  refine sm_goto 216 (pc := 210) dX8_does_210 rfl ?_
  refine sm_sub [] rfl ?_
  exact sJ_X8_does_216 Z  (Int32.toInt64 r206) S206
set_option maxRecDepth 20000 in
set_option maxHeartbeats 4000000 in
theorem sJ_X8_does_161 (Z : ZT)  (x0 : Nat) (x2 : Int32) (x3 : Int32)  (S : St) : Sim eL Z rm_X8_does RX8 cX8_does 5 (some .long) 161 [(0, .ref x0), (2, .int x2), (3, .int x3)] [] S (J_X8_does_161  x0 x2 x3 S) := by
  unfold J_X8_does_161
  refine sm_iconst (pc := 161) (0 : Int32) dX8_does_161 (by decide) ?_
  refine sm_sub [0, 1, 2] rfl ?_
  exact sJ_X8_does_162 Z  x0 x2 x3 (0 : Int32) S
set_option maxRecDepth 20000 in
set_option maxHeartbeats 4000000 in
theorem s_X8_does (Z : ZT) (c : Nat) (a1 : Int32) (S : St) : Sim eL Z rm_X8_does RX8 cX8_does 5 (some .long) 0 [(0, .ref c), (1, .int a1)] [] S (F_X8_does c a1 S) := by
  unfold F_X8_does
  refine sm_aload_n (pc := 0) dX8_does_0 rfl 0 rfl ?_
  refine sm_getR (pc := 1) dX8_does_1 fr_RX8_61 (by decide) rfl (fun v1 => ?_)
  refine sm_iconst (pc := 4) (0 : Int32) dX8_does_4 (by decide) ?_
  refine sm_aI (pc := 5) dX8_does_5 (fun v5 => ?_)
  refine sm_istore_n (pc := 6) (lv' := [(2, .int v5), (0, .ref c), (1, .int a1)]) dX8_does_6 rfl (by decide) rfl ?_
  refine sm_aload_n (pc := 7) dX8_does_7 rfl 1 rfl ?_
  refine sm_getR (pc := 8) dX8_does_8 fr_RX8_61 (by decide) rfl (fun v8 => ?_)
  refine sm_iconst (pc := 11) (1 : Int32) dX8_does_11 (by decide) ?_
  refine sm_aI (pc := 12) dX8_does_12 (fun v12 => ?_)
  refine sm_istore_n (pc := 13) (lv' := [(3, .int v12), (2, .int v5), (0, .ref c), (1, .int a1)]) dX8_does_13 rfl (by decide) rfl ?_
  refine sm_iload_n (pc := 14) dX8_does_14 rfl 3 rfl ?_
  refine sm_tswk (pc := 15) 253 [232, 253, 253, 245, 253, 253, 253, 253, 108, 253, 253, 253, 217, 253, 225, 253, 253, 253, 253, 239] [100, 101, 102, 103, 104, 105, 106, 107, 108, 109, 110, 111, 112, 113, 114, 115, 116, 117, 118, 119] dX8_does_15 rfl (by decide) (by decide) (by decide) rfl ⟨?_, ?_, ?_, ?_, ?_, ?_, ?_, ?_, ?_, ?_, ?_, ?_, ?_, ?_, ?_, ?_, ?_, ?_, ?_, ?_, trivial⟩ ?_
  · refine sm_aload_n (pc := 232) dX8_does_232 rfl 2 rfl ?_
    refine sm_iload_n (pc := 233) dX8_does_233 rfl 1 rfl ?_
    refine sm_callVI (pc := 234) [.int v5] (fun lq rq Sq hq => m_X8_days Z lq c v5 S hq) dX8_does_234 mi_X8_days ml_RX8_316 ⟨Nat.le_of_ble_eq_true rfl, Nat.le_of_ble_eq_true rfl, rfl, rfl⟩ rfl (by decide) rfl (Nat.le_of_ble_eq_true rfl) rfl (fun r234 S234 => ?_)
    refine sm_i2l (pc := 237) dX8_does_237 ?_
    exact sm_retL (pc := 238) dX8_does_238
  · refine sm_sub [2, 1] rfl ?_
    exact sJ_X8_does_253 Z  c v5 S
  · refine sm_sub [2, 1] rfl ?_
    exact sJ_X8_does_253 Z  c v5 S
  · refine sm_aload_n (pc := 245) dX8_does_245 rfl 2 rfl ?_
    refine sm_iconst (pc := 246) (0 : Int32) dX8_does_246 (by decide) ?_
    refine sm_iload_n (pc := 247) dX8_does_247 rfl 1 rfl ?_
    refine sm_callVI (pc := 248) [.int (0 : Int32), .int v5] (fun lq rq Sq hq => m_X8_rule Z lq c (0 : Int32) v5 S hq) dX8_does_248 mi_X8_rule ml_RX8_322 ⟨Nat.le_of_ble_eq_true rfl, Nat.le_of_ble_eq_true rfl, rfl, rfl⟩ rfl (by decide) rfl (Nat.le_of_ble_eq_true rfl) rfl (fun r248 S248 => ?_)
    refine sm_i2l (pc := 251) dX8_does_251 ?_
    exact sm_retL (pc := 252) dX8_does_252
  · refine sm_sub [2, 1] rfl ?_
    exact sJ_X8_does_253 Z  c v5 S
  · refine sm_sub [2, 1] rfl ?_
    exact sJ_X8_does_253 Z  c v5 S
  · refine sm_sub [2, 1] rfl ?_
    exact sJ_X8_does_253 Z  c v5 S
  · refine sm_sub [2, 1] rfl ?_
    exact sJ_X8_does_253 Z  c v5 S
  · refine sm_aload_n (pc := 108) dX8_does_108 rfl 2 rfl ?_
    refine sm_getR (pc := 109) dX8_does_109 fr_RX8_61 (by decide) rfl (fun v109 => ?_)
    refine sm_iconst (pc := 112) (3 : Int32) dX8_does_112 (by decide) ?_
    refine sm_aI (pc := 113) dX8_does_113 (fun v113 => ?_)
    refine sm_i2l (pc := 114) dX8_does_114 ?_
    refine sm_lconst (pc := 115) (0 : Int64) dX8_does_115 (by decide) ?_
    refine sm_ldc2 (pc := 116) (2 : Int64) dX8_does_116 kc_RX8_124 ?_
    refine sm_callSI (pc := 119) [.long (Int32.toInt64 v113), .long (0 : Int64), .long (2 : Int64)] (fun lq rq Sq hq => m_X8_in Z lq (Int32.toInt64 v113) (0 : Int64) (2 : Int64) S hq) dX8_does_119 mi_X8_in ml_RX8_85 ⟨Nat.le_of_ble_eq_true rfl, Nat.le_of_ble_eq_true rfl, rfl, rfl⟩ rfl (Nat.le_of_ble_eq_true rfl) rfl (fun r119 S119 => ?_)
    refine sm_if_eq 161 (pc := 122) dX8_does_122 rfl ?_ ?_
    · refine sm_sub [2, 1, 0] rfl ?_
      exact sJ_X8_does_161 Z  c v5 v12 S119
    refine sm_aload_n (pc := 125) dX8_does_125 rfl 2 rfl ?_
    refine sm_getR (pc := 126) dX8_does_126 fr_RX8_61 (by decide) rfl (fun v126 => ?_)
    refine sm_iconst (pc := 129) (4 : Int32) dX8_does_129 (by decide) ?_
    refine sm_aI (pc := 130) dX8_does_130 (fun v130 => ?_)
    refine sm_i2l (pc := 131) dX8_does_131 ?_
    refine sm_lconst (pc := 132) (1 : Int64) dX8_does_132 (by decide) ?_
    refine sm_ldc2 (pc := 133) (60 : Int64) dX8_does_133 kc_RX8_166 ?_
    refine sm_callSI (pc := 136) [.long (Int32.toInt64 v130), .long (1 : Int64), .long (60 : Int64)] (fun lq rq Sq hq => m_X8_in Z lq (Int32.toInt64 v130) (1 : Int64) (60 : Int64) S119 hq) dX8_does_136 mi_X8_in ml_RX8_85 ⟨Nat.le_of_ble_eq_true rfl, Nat.le_of_ble_eq_true rfl, rfl, rfl⟩ rfl (Nat.le_of_ble_eq_true rfl) rfl (fun r136 S136 => ?_)
    refine sm_if_eq 161 (pc := 139) dX8_does_139 rfl ?_ ?_
    · refine sm_sub [2, 1, 0] rfl ?_
      exact sJ_X8_does_161 Z  c v5 v12 S136
    refine sm_aload_n (pc := 142) dX8_does_142 rfl 2 rfl ?_
    refine sm_getR (pc := 143) dX8_does_143 fr_RX8_61 (by decide) rfl (fun v143 => ?_)
    refine sm_iconst (pc := 146) (5 : Int32) dX8_does_146 (by decide) ?_
    refine sm_aI (pc := 147) dX8_does_147 (fun v147 => ?_)
    refine sm_i2l (pc := 148) dX8_does_148 ?_
    refine sm_lconst (pc := 149) (0 : Int64) dX8_does_149 (by decide) ?_
    refine sm_lconst (pc := 150) (1 : Int64) dX8_does_150 (by decide) ?_
    refine sm_callSI (pc := 151) [.long (Int32.toInt64 v147), .long (0 : Int64), .long (1 : Int64)] (fun lq rq Sq hq => m_X8_in Z lq (Int32.toInt64 v147) (0 : Int64) (1 : Int64) S136 hq) dX8_does_151 mi_X8_in ml_RX8_85 ⟨Nat.le_of_ble_eq_true rfl, Nat.le_of_ble_eq_true rfl, rfl, rfl⟩ rfl (Nat.le_of_ble_eq_true rfl) rfl (fun r151 S151 => ?_)
    refine sm_if_eq 161 (pc := 154) dX8_does_154 rfl ?_ ?_
    · refine sm_sub [2, 1, 0] rfl ?_
      exact sJ_X8_does_161 Z  c v5 v12 S151
    refine sm_iconst (pc := 157) (1 : Int32) dX8_does_157 (by decide) ?_
    refine sm_goto 162 (pc := 158) dX8_does_158 rfl ?_
    refine sm_sub [2, 1, 0] rfl ?_
    exact sJ_X8_does_162 Z  c v5 v12 (1 : Int32) S151
  · refine sm_sub [2, 1] rfl ?_
    exact sJ_X8_does_253 Z  c v5 S
  · refine sm_sub [2, 1] rfl ?_
    exact sJ_X8_does_253 Z  c v5 S
  · refine sm_sub [2, 1] rfl ?_
    exact sJ_X8_does_253 Z  c v5 S
  · refine sm_aload_n (pc := 217) dX8_does_217 rfl 2 rfl ?_
    refine sm_iload_n (pc := 218) dX8_does_218 rfl 1 rfl ?_
    refine sm_iload_n (pc := 219) dX8_does_219 rfl 0 rfl ?_
    refine sm_i2l (pc := 220) dX8_does_220 ?_
    refine sm_callVL (pc := 221) [.int v5, .long (Int32.toInt64 v12)] (fun lq rq Sq hq => m_X8_pay Z lq c v5 (Int32.toInt64 v12) S hq) dX8_does_221 mi_X8_pay ml_RX8_309 ⟨Nat.le_of_ble_eq_true rfl, Nat.le_of_ble_eq_true rfl, rfl, rfl⟩ rfl (by decide) rfl (Nat.le_of_ble_eq_true rfl) rfl (fun r221 S221 => ?_)
    exact sm_retL (pc := 224) dX8_does_224
  · refine sm_sub [2, 1] rfl ?_
    exact sJ_X8_does_253 Z  c v5 S
  · refine sm_aload_n (pc := 225) dX8_does_225 rfl 2 rfl ?_
    refine sm_iload_n (pc := 226) dX8_does_226 rfl 1 rfl ?_
    refine sm_iload_n (pc := 227) dX8_does_227 rfl 0 rfl ?_
    refine sm_callVL (pc := 228) [.int v5, .int v12] (fun lq rq Sq hq => m_X8_reset Z lq c v5 v12 S hq) dX8_does_228 mi_X8_reset ml_RX8_313 ⟨Nat.le_of_ble_eq_true rfl, Nat.le_of_ble_eq_true rfl, rfl, rfl⟩ rfl (by decide) rfl (Nat.le_of_ble_eq_true rfl) rfl (fun r228 S228 => ?_)
    exact sm_retL (pc := 231) dX8_does_231
  · refine sm_sub [2, 1] rfl ?_
    exact sJ_X8_does_253 Z  c v5 S
  · refine sm_sub [2, 1] rfl ?_
    exact sJ_X8_does_253 Z  c v5 S
  · refine sm_sub [2, 1] rfl ?_
    exact sJ_X8_does_253 Z  c v5 S
  · refine sm_sub [2, 1] rfl ?_
    exact sJ_X8_does_253 Z  c v5 S
  · refine sm_aload_n (pc := 239) dX8_does_239 rfl 2 rfl ?_
    refine sm_iload_n (pc := 240) dX8_does_240 rfl 1 rfl ?_
    refine sm_callVL (pc := 241) [.int v5] (fun lq rq Sq hq => m_X8_writeOff Z lq c v5 S hq) dX8_does_241 mi_X8_writeOff ml_RX8_319 ⟨Nat.le_of_ble_eq_true rfl, Nat.le_of_ble_eq_true rfl, rfl, rfl⟩ rfl (by decide) rfl (Nat.le_of_ble_eq_true rfl) rfl (fun r241 S241 => ?_)
    exact sm_retL (pc := 244) dX8_does_244
  refine sm_sub [2, 1] rfl ?_
  exact sJ_X8_does_253 Z  c v5 S
set_option maxRecDepth 20000 in
set_option maxHeartbeats 4000000 in
theorem m_X8_does (Z : ZT) (l : Launch) (c : Nat) (a1 : Int32) (S : St) {r : Int64} {S' : St} (h : F_X8_does c a1 S = some (r, S')) : MetX Z l yX8_does cX8_does 5 (some .long) rm_X8_does [.ref c, .int a1] S (eL r) S' := Sim.met (by decide +kernel) rfl (Nat.le_of_ble_eq_true rfl) (s_X8_does Z c a1 S) l h
set_option maxRecDepth 20000 in
set_option maxHeartbeats 4000000 in
theorem sJ_X8_script_92 (Z : ZT) (rec41 : (Nat → Int32 → Int32 → St → Option (Int32 × St))) (h41 : ∀ (x0 : Nat) (x1 : Int32) (x2 : Int32)  (S : St), Sim eI Z rm_X8_script RX8 cX8_script 3 (some .int) 41 [(0, .ref x0), (1, .int x1), (2, .int x2)] [] S (rec41 x0 x1 x2 S)) (x0 : Nat) (x1 : Int32) (t0 : Int32) (S : St) : Sim eI Z rm_X8_script RX8 cX8_script 3 (some .int) 92 [(0, .ref x0), (1, .int x1)] [.int t0] S (J_X8_script_92 rec41 x0 x1 t0 S) := by
  unfold J_X8_script_92
  refine sm_istore_n (pc := 92) (lv' := [(2, .int t0), (0, .ref x0), (1, .int x1)]) dX8_script_92 rfl (by decide) rfl ?_
  refine sm_iinc (pc := 93) (x1 + 1) (lv' := [(1, .int (x1 + 1)), (2, .int t0), (0, .ref x0)]) dX8_script_93 2 rfl rfl (by decide) rfl ?_
  refine sm_goto 41 (pc := 96) dX8_script_96 rfl ?_
  refine sm_sub [2, 0, 1] rfl ?_
  exact h41 x0 (x1 + 1) t0 S
set_option maxRecDepth 20000 in
set_option maxHeartbeats 4000000 in
theorem sJ_X8_script_70 (Z : ZT) (rec41 : (Nat → Int32 → Int32 → St → Option (Int32 × St))) (h41 : ∀ (x0 : Nat) (x1 : Int32) (x2 : Int32)  (S : St), Sim eI Z rm_X8_script RX8 cX8_script 3 (some .int) 41 [(0, .ref x0), (1, .int x1), (2, .int x2)] [] S (rec41 x0 x1 x2 S)) (x0 : Nat) (x1 : Int32) (t0 : Int32) (t1 : Int32) (t2 : Nat) (S : St) : Sim eI Z rm_X8_script RX8 cX8_script 3 (some .int) 70 [(0, .ref x0), (1, .int x1)] [.int t0, .int t1, .ref t2] S (J_X8_script_70 rec41 x0 x1 t0 t1 t2 S) := by
  unfold J_X8_script_70
  refine sm_iadd (pc := 70) dX8_script_70 ?_
  refine sm_putI (pc := 71) dX8_script_71 fw_RX8_285 (by decide) rfl (fun S71 => ?_)
  refine sm_aload_n (pc := 74) dX8_script_74 rfl 0 rfl ?_
  refine sm_aload_n (pc := 75) dX8_script_75 rfl 0 rfl ?_
  refine sm_callVI (pc := 76) [] (fun lq rq Sq hq => m_X8_line Z lq x0 S71 hq) dX8_script_76 mi_X8_line ml_RX8_302 ⟨Nat.le_of_ble_eq_true rfl, Nat.le_of_ble_eq_true rfl, rfl, rfl⟩ rfl (by decide) rfl (Nat.le_of_ble_eq_true rfl) rfl (fun r76 S76 => ?_)
  refine sm_callVL (pc := 79) [.int r76] (fun lq rq Sq hq => m_X8_does Z lq x0 r76 S76 hq) dX8_script_79 mi_X8_does ml_RX8_329 ⟨Nat.le_of_ble_eq_true rfl, Nat.le_of_ble_eq_true rfl, rfl, rfl⟩ rfl (by decide) rfl (Nat.le_of_ble_eq_true rfl) rfl (fun r79 S79 => ?_)
  refine sm_lconst (pc := 82) (0 : Int64) dX8_script_82 (by decide) ?_
  refine sm_lcmp_lt 91 (pc := 83) dX8_script_83 dX8_script_84 rfl ?_ ?_
  · refine sm_iconst (pc := 91) (0 : Int32) dX8_script_91 (by decide) ?_
    refine sm_sub [0, 1] rfl ?_
    exact sJ_X8_script_92 Z rec41 h41 x0 x1 (0 : Int32) S79
  refine sm_iconst (pc := 87) (1 : Int32) dX8_script_87 (by decide) ?_
  refine sm_goto 92 (pc := 88) dX8_script_88 rfl ?_
  refine sm_sub [0, 1] rfl ?_
  exact sJ_X8_script_92 Z rec41 h41 x0 x1 (1 : Int32) S79
set_option maxRecDepth 20000 in
set_option maxHeartbeats 4000000 in
theorem sJ_X8_script_99 (Z : ZT)  (x0 : Nat) (x1 : Int32) (x2 : Int32)  (S : St) : Sim eI Z rm_X8_script RX8 cX8_script 3 (some .int) 99 [(0, .ref x0), (1, .int x1), (2, .int x2)] [] S (J_X8_script_99  x0 x1 x2 S) := by
  unfold J_X8_script_99
  refine sm_aload_n (pc := 99) dX8_script_99 rfl 0 rfl ?_
  refine sm_iconst (pc := 100) (0 : Int32) dX8_script_100 (by decide) ?_
  refine sm_putI (pc := 101) dX8_script_101 fw_RX8_279 (by decide) rfl (fun S101 => ?_)
  refine sm_iload_n (pc := 104) dX8_script_104 rfl 2 rfl ?_
  refine sm_if_ne 127 (pc := 105) dX8_script_105 rfl ?_ ?_
  · refine sm_iload_n (pc := 127) dX8_script_127 rfl 1 rfl ?_
    exact sm_retI (pc := 128) dX8_script_128
  refine sm_aload_n (pc := 108) dX8_script_108 rfl 0 rfl ?_
  refine sm_getR (pc := 109) dX8_script_109 fr_RX8_16 (by decide) rfl (fun v109 => ?_)
  refine sm_aload_n (pc := 112) dX8_script_112 rfl 0 rfl ?_
  refine sm_getR (pc := 113) dX8_script_113 fr_RX8_9 (by decide) rfl (fun v113 => ?_)
  refine sm_callSV (pc := 116) [.ref v109, .ref v113] (fun lq rq Sq hq => m_X8_take Z lq v109 v113 S101 hq) dX8_script_116 mi_X8_take ml_RX8_267 ⟨Nat.le_of_ble_eq_true rfl, Nat.le_of_ble_eq_true rfl, rfl, rfl⟩ rfl (Nat.le_of_ble_eq_true rfl) rfl (fun _ S116 => ?_)
  refine sm_sipush (pc := 119) (-2000 : Int32) dX8_script_119 (by decide) ?_
  refine sm_iload_n (pc := 122) dX8_script_122 rfl 1 rfl ?_
  refine sm_iconst (pc := 123) (1 : Int32) dX8_script_123 (by decide) ?_
  refine sm_isub (pc := 124) dX8_script_124 ?_
  refine sm_isub (pc := 125) dX8_script_125 ?_
  exact sm_retI (pc := 126) dX8_script_126
set_option maxRecDepth 20000 in
set_option maxHeartbeats 4000000 in
theorem sB_X8_script_41 (Z : ZT) (rec41 : (Nat → Int32 → Int32 → St → Option (Int32 × St))) (h41 : ∀ (x0 : Nat) (x1 : Int32) (x2 : Int32)  (S : St), Sim eI Z rm_X8_script RX8 cX8_script 3 (some .int) 41 [(0, .ref x0), (1, .int x1), (2, .int x2)] [] S (rec41 x0 x1 x2 S)) (x0 : Nat) (x1 : Int32) (x2 : Int32)  (S : St) : Sim eI Z rm_X8_script RX8 cX8_script 3 (some .int) 41 [(0, .ref x0), (1, .int x1), (2, .int x2)] [] S (B_X8_script_41 rec41 x0 x1 x2 S) := by
  unfold B_X8_script_41
  refine sm_iload_n (pc := 41) dX8_script_41 rfl 2 rfl ?_
  refine sm_if_eq 99 (pc := 42) dX8_script_42 rfl ?_ ?_
  · refine sm_sub [0, 1, 2] rfl ?_
    exact sJ_X8_script_99 Z  x0 x1 x2 S
  refine sm_aload_n (pc := 45) dX8_script_45 rfl 0 rfl ?_
  refine sm_getI (pc := 46) dX8_script_46 fr_RX8_285 (by decide) rfl (fun v46 => ?_)
  refine sm_aload_n (pc := 49) dX8_script_49 rfl 0 rfl ?_
  refine sm_getI (pc := 50) dX8_script_50 fr_RX8_279 (by decide) rfl (fun v50 => ?_)
  refine sm_icmp_ge 99 (pc := 53) dX8_script_53 rfl ?_ ?_
  · refine sm_sub [0, 1, 2] rfl ?_
    exact sJ_X8_script_99 Z  x0 x1 x2 S
  refine sm_aload_n (pc := 56) dX8_script_56 rfl 0 rfl ?_
  refine sm_dup (pc := 57) dX8_script_57 rfl ?_
  refine sm_getI (pc := 58) dX8_script_58 fr_RX8_285 (by decide) rfl (fun v58 => ?_)
  refine sm_iload_n (pc := 61) dX8_script_61 rfl 1 rfl ?_
  refine sm_if_le 69 (pc := 62) dX8_script_62 rfl ?_ ?_
  · refine sm_iconst (pc := 69) (0 : Int32) dX8_script_69 (by decide) ?_
    refine sm_sub [0, 1] rfl ?_
    exact sJ_X8_script_70 Z rec41 h41 x0 x1 (0 : Int32) v58 x0 S
  refine sm_iconst (pc := 65) (1 : Int32) dX8_script_65 (by decide) ?_
  refine sm_goto 70 (pc := 66) dX8_script_66 rfl ?_
  refine sm_sub [0, 1] rfl ?_
  exact sJ_X8_script_70 Z rec41 h41 x0 x1 (1 : Int32) v58 x0 S
set_option maxRecDepth 20000 in
set_option maxHeartbeats 4000000 in
theorem sL_X8_script_41 (Z : ZT)  (n : Nat) : ∀ (x0 : Nat) (x1 : Int32) (x2 : Int32)  (S : St), Sim eI Z rm_X8_script RX8 cX8_script 3 (some .int) 41 [(0, .ref x0), (1, .int x1), (2, .int x2)] [] S (L_X8_script_41  n x0 x1 x2 S) := by
  induction n with
  | zero => intros; exact sm_none
  | succ n ih => intro x0 x1 x2 S; exact sB_X8_script_41 Z  (L_X8_script_41  n) ih x0 x1 x2 S
set_option maxRecDepth 20000 in
set_option maxHeartbeats 4000000 in
theorem s_X8_script (Z : ZT) (c : Nat) (S : St) : Sim eI Z rm_X8_script RX8 cX8_script 3 (some .int) 0 [(0, .ref c)] [] S (F_X8_script c S) := by
  unfold F_X8_script
  refine sm_aload_n (pc := 0) dX8_script_0 rfl 0 rfl ?_
  refine sm_callVI (pc := 1) [] (fun lq rq Sq hq => m_X8_isForm Z lq c S hq) dX8_script_1 mi_X8_isForm ml_RX8_325 ⟨Nat.le_of_ble_eq_true rfl, Nat.le_of_ble_eq_true rfl, rfl, rfl⟩ rfl (by decide) rfl (Nat.le_of_ble_eq_true rfl) rfl (fun r1 S1 => ?_)
  refine sm_if_ne 21 (pc := 4) dX8_script_4 rfl ?_ ?_
  · refine sm_aload_n (pc := 21) dX8_script_21 rfl 0 rfl ?_
    refine sm_getR (pc := 22) dX8_script_22 fr_RX8_9 (by decide) rfl (fun v22 => ?_)
    refine sm_aload_n (pc := 25) dX8_script_25 rfl 0 rfl ?_
    refine sm_getR (pc := 26) dX8_script_26 fr_RX8_16 (by decide) rfl (fun v26 => ?_)
    refine sm_callSV (pc := 29) [.ref v22, .ref v26] (fun lq rq Sq hq => m_X8_take Z lq v22 v26 S1 hq) dX8_script_29 mi_X8_take ml_RX8_267 ⟨Nat.le_of_ble_eq_true rfl, Nat.le_of_ble_eq_true rfl, rfl, rfl⟩ rfl (Nat.le_of_ble_eq_true rfl) rfl (fun _ S29 => ?_)
    refine sm_aload_n (pc := 32) dX8_script_32 rfl 0 rfl ?_
    refine sm_iconst (pc := 33) (0 : Int32) dX8_script_33 (by decide) ?_
    refine sm_putI (pc := 34) dX8_script_34 fw_RX8_285 (by decide) rfl (fun S34 => ?_)
    refine sm_iconst (pc := 37) (0 : Int32) dX8_script_37 (by decide) ?_
    refine sm_istore_n (pc := 38) (lv' := [(1, .int (0 : Int32)), (0, .ref c)]) dX8_script_38 rfl (by decide) rfl ?_
    refine sm_iconst (pc := 39) (1 : Int32) dX8_script_39 (by decide) ?_
    refine sm_istore_n (pc := 40) (lv' := [(2, .int (1 : Int32)), (1, .int (0 : Int32)), (0, .ref c)]) dX8_script_40 rfl (by decide) rfl ?_
    refine sm_sub [2, 1, 0] rfl ?_
    exact sL_X8_script_41 Z  6000 c (0 : Int32) (1 : Int32) S34
  refine sm_aload_n (pc := 7) dX8_script_7 rfl 0 rfl ?_
  refine sm_iconst (pc := 8) (0 : Int32) dX8_script_8 (by decide) ?_
  refine sm_putI (pc := 9) dX8_script_9 fw_RX8_279 (by decide) rfl (fun S9 => ?_)
  refine sm_sipush (pc := 12) (-1000 : Int32) dX8_script_12 (by decide) ?_
  refine sm_aload_n (pc := 15) dX8_script_15 rfl 0 rfl ?_
  refine sm_getI (pc := 16) dX8_script_16 fr_RX8_282 (by decide) rfl (fun v16 => ?_)
  refine sm_isub (pc := 19) dX8_script_19 ?_
  exact sm_retI (pc := 20) dX8_script_20
set_option maxRecDepth 20000 in
set_option maxHeartbeats 4000000 in
theorem m_X8_script (Z : ZT) (l : Launch) (c : Nat) (S : St) {r : Int32} {S' : St} (h : F_X8_script c S = some (r, S')) : MetX Z l yX8_script cX8_script 3 (some .int) rm_X8_script [.ref c] S (eI r) S' := Sim.met (by decide +kernel) rfl (Nat.le_of_ble_eq_true rfl) (s_X8_script Z c S) l h
set_option maxRecDepth 20000 in
set_option maxHeartbeats 4000000 in
theorem s_X8_image (Z : ZT) (c : Nat) (S : St) : Sim eI Z rm_X8_image RX8 cX8_image 1 (some .int) 0 [(0, .ref c)] [] S (F_X8_image c S) := by
  unfold F_X8_image
  refine sm_aload_n (pc := 0) dX8_image_0 rfl 0 rfl ?_
  refine sm_getR (pc := 1) dX8_image_1 fr_RX8_9 (by decide) rfl (fun v1 => ?_)
  refine sm_aload_n (pc := 4) dX8_image_4 rfl 0 rfl ?_
  refine sm_getR (pc := 5) dX8_image_5 fr_RX8_19 (by decide) rfl (fun v5 => ?_)
  refine sm_callSV (pc := 8) [.ref v1, .ref v5] (fun lq rq Sq hq => m_X8_take Z lq v1 v5 S hq) dX8_image_8 mi_X8_take ml_RX8_267 ⟨Nat.le_of_ble_eq_true rfl, Nat.le_of_ble_eq_true rfl, rfl, rfl⟩ rfl (Nat.le_of_ble_eq_true rfl) rfl (fun _ S8 => ?_)
  refine sm_aload_n (pc := 11) dX8_image_11 rfl 0 rfl ?_
  refine sm_iconst (pc := 12) (1 : Int32) dX8_image_12 (by decide) ?_
  refine sm_putZ (pc := 13) dX8_image_13 fw_RX8_332 (by decide) rfl (fun S13 => ?_)
  refine sm_aload_n (pc := 16) dX8_image_16 rfl 0 rfl ?_
  refine sm_getR (pc := 17) dX8_image_17 fr_RX8_9 (by decide) rfl (fun v17 => ?_)
  refine sm_sipush (pc := 20) (2521 : Int32) dX8_image_20 (by decide) ?_
  refine sm_aJ (pc := 23) dX8_image_23 (fun v23 => ?_)
  refine sm_l2i (pc := 24) dX8_image_24 ?_
  exact sm_retI (pc := 25) dX8_image_25
set_option maxRecDepth 20000 in
set_option maxHeartbeats 4000000 in
theorem m_X8_image (Z : ZT) (l : Launch) (c : Nat) (S : St) {r : Int32} {S' : St} (h : F_X8_image c S = some (r, S')) : MetX Z l yX8_image cX8_image 1 (some .int) rm_X8_image [.ref c] S (eI r) S' := Sim.met (by decide +kernel) rfl (Nat.le_of_ble_eq_true rfl) (s_X8_image Z c S) l h
set_option maxRecDepth 20000 in
set_option maxHeartbeats 4000000 in
theorem sJ_X8_back_67 (Z : ZT) (rec23 : (Nat → Int32 → St → Option (Int32 × St))) (h23 : ∀ (x0 : Nat) (x1 : Int32)  (S : St), Sim eI Z rm_X8_back RX8 cX8_back 2 (some .int) 23 [(0, .ref x0), (1, .int x1)] [] S (rec23 x0 x1 S)) (x0 : Nat) (x1 : Int32) (t0 : Int32) (t1 : Int32) (t2 : Nat) (S : St) : Sim eI Z rm_X8_back RX8 cX8_back 2 (some .int) 67 [(0, .ref x0), (1, .int x1)] [.int t0, .int t1, .ref t2] S (J_X8_back_67 rec23 x0 x1 t0 t1 t2 S) := by
  unfold J_X8_back_67
  refine sm_sI (pc := 67) dX8_back_67 (fun S67 => ?_)
  refine sm_iinc (pc := 68) (x1 + 1) (lv' := [(1, .int (x1 + 1)), (0, .ref x0)]) dX8_back_68 1 rfl rfl (by decide) rfl ?_
  refine sm_goto 23 (pc := 71) dX8_back_71 rfl ?_
  refine sm_sub [1, 0] rfl ?_
  exact h23 x0 (x1 + 1) S67
set_option maxRecDepth 20000 in
set_option maxHeartbeats 4000000 in
theorem sJ_X8_back_61 (Z : ZT) (rec23 : (Nat → Int32 → St → Option (Int32 × St))) (h23 : ∀ (x0 : Nat) (x1 : Int32)  (S : St), Sim eI Z rm_X8_back RX8 cX8_back 2 (some .int) 23 [(0, .ref x0), (1, .int x1)] [] S (rec23 x0 x1 S)) (x0 : Nat) (x1 : Int32) (t0 : Int32) (t1 : Nat) (S : St) : Sim eI Z rm_X8_back RX8 cX8_back 2 (some .int) 61 [(0, .ref x0), (1, .int x1)] [.int t0, .ref t1] S (J_X8_back_61 rec23 x0 x1 t0 t1 S) := by
  unfold J_X8_back_61
  refine sm_aload_n (pc := 61) dX8_back_61 rfl 0 rfl ?_
  refine sm_getR (pc := 62) dX8_back_62 fr_RX8_41 (by decide) rfl (fun v62 => ?_)
  refine sm_iload_n (pc := 65) dX8_back_65 rfl 1 rfl ?_
  refine sm_aI (pc := 66) dX8_back_66 (fun v66 => ?_)
  refine sm_sub [0, 1] rfl ?_
  exact sJ_X8_back_67 Z rec23 h23 x0 x1 v66 t0 t1 S
set_option maxRecDepth 20000 in
set_option maxHeartbeats 4000000 in
theorem sB_X8_back_23 (Z : ZT) (rec23 : (Nat → Int32 → St → Option (Int32 × St))) (h23 : ∀ (x0 : Nat) (x1 : Int32)  (S : St), Sim eI Z rm_X8_back RX8 cX8_back 2 (some .int) 23 [(0, .ref x0), (1, .int x1)] [] S (rec23 x0 x1 S)) (x0 : Nat) (x1 : Int32)  (S : St) : Sim eI Z rm_X8_back RX8 cX8_back 2 (some .int) 23 [(0, .ref x0), (1, .int x1)] [] S (B_X8_back_23 rec23 x0 x1 S) := by
  unfold B_X8_back_23
  refine sm_iload_n (pc := 23) dX8_back_23 rfl 1 rfl ?_
  refine sm_bipush (pc := 24) (6 : Int32) dX8_back_24 (by decide) ?_
  refine sm_icmp_ge 74 (pc := 26) dX8_back_26 rfl ?_ ?_
  · refine sm_aload_n (pc := 74) dX8_back_74 rfl 0 rfl ?_
    refine sm_getR (pc := 75) dX8_back_75 fr_RX8_9 (by decide) rfl (fun v75 => ?_)
    refine sm_sipush (pc := 78) (2521 : Int32) dX8_back_78 (by decide) ?_
    refine sm_aJ (pc := 81) dX8_back_81 (fun v81 => ?_)
    refine sm_l2i (pc := 82) dX8_back_82 ?_
    exact sm_retI (pc := 83) dX8_back_83
  refine sm_aload_n (pc := 29) dX8_back_29 rfl 0 rfl ?_
  refine sm_getR (pc := 30) dX8_back_30 fr_RX8_41 (by decide) rfl (fun v30 => ?_)
  refine sm_iload_n (pc := 33) dX8_back_33 rfl 1 rfl ?_
  refine sm_aload_n (pc := 34) dX8_back_34 rfl 0 rfl ?_
  refine sm_getR (pc := 35) dX8_back_35 fr_RX8_41 (by decide) rfl (fun v35 => ?_)
  refine sm_iload_n (pc := 38) dX8_back_38 rfl 1 rfl ?_
  refine sm_aI (pc := 39) dX8_back_39 (fun v39 => ?_)
  refine sm_iconst (pc := 40) (1 : Int32) dX8_back_40 (by decide) ?_
  refine sm_icmp_ne 61 (pc := 41) dX8_back_41 rfl ?_ ?_
  · refine sm_sub [0, 1] rfl ?_
    exact sJ_X8_back_61 Z rec23 h23 x0 x1 x1 v30 S
  refine sm_aload_n (pc := 44) dX8_back_44 rfl 0 rfl ?_
  refine sm_aload_n (pc := 45) dX8_back_45 rfl 0 rfl ?_
  refine sm_getR (pc := 46) dX8_back_46 fr_RX8_44 (by decide) rfl (fun v46 => ?_)
  refine sm_iload_n (pc := 49) dX8_back_49 rfl 1 rfl ?_
  refine sm_aI (pc := 50) dX8_back_50 (fun v50 => ?_)
  refine sm_callVI (pc := 51) [.int v50] (fun lq rq Sq hq => m_X8_isLoan Z lq x0 v50 S hq) dX8_back_51 mi_X8_isLoan ml_RX8_197 ⟨Nat.le_of_ble_eq_true rfl, Nat.le_of_ble_eq_true rfl, rfl, rfl⟩ rfl (by decide) rfl (Nat.le_of_ble_eq_true rfl) rfl (fun r51 S51 => ?_)
  refine sm_if_ne 61 (pc := 54) dX8_back_54 rfl ?_ ?_
  · refine sm_sub [0, 1] rfl ?_
    exact sJ_X8_back_61 Z rec23 h23 x0 x1 x1 v30 S51
  refine sm_iconst (pc := 57) (0 : Int32) dX8_back_57 (by decide) ?_
  refine sm_goto 67 (pc := 58) dX8_back_58 rfl ?_
  refine sm_sub [0, 1] rfl ?_
  exact sJ_X8_back_67 Z rec23 h23 x0 x1 (0 : Int32) x1 v30 S51
set_option maxRecDepth 20000 in
set_option maxHeartbeats 4000000 in
theorem sL_X8_back_23 (Z : ZT)  (n : Nat) : ∀ (x0 : Nat) (x1 : Int32)  (S : St), Sim eI Z rm_X8_back RX8 cX8_back 2 (some .int) 23 [(0, .ref x0), (1, .int x1)] [] S (L_X8_back_23  n x0 x1 S) := by
  induction n with
  | zero => intros; exact sm_none
  | succ n ih => intro x0 x1 S; exact sB_X8_back_23 Z  (L_X8_back_23  n) ih x0 x1 S
set_option maxRecDepth 20000 in
set_option maxHeartbeats 4000000 in
theorem s_X8_back (Z : ZT) (c : Nat) (S : St) : Sim eI Z rm_X8_back RX8 cX8_back 2 (some .int) 0 [(0, .ref c)] [] S (F_X8_back c S) := by
  unfold F_X8_back
  refine sm_aload_n (pc := 0) dX8_back_0 rfl 0 rfl ?_
  refine sm_getI (pc := 1) dX8_back_1 fr_RX8_332 (by decide) rfl (fun v1 => ?_)
  refine sm_if_ne 10 (pc := 4) dX8_back_4 rfl ?_ ?_
  · refine sm_aload_n (pc := 10) dX8_back_10 rfl 0 rfl ?_
    refine sm_getR (pc := 11) dX8_back_11 fr_RX8_19 (by decide) rfl (fun v11 => ?_)
    refine sm_aload_n (pc := 14) dX8_back_14 rfl 0 rfl ?_
    refine sm_getR (pc := 15) dX8_back_15 fr_RX8_9 (by decide) rfl (fun v15 => ?_)
    refine sm_callSV (pc := 18) [.ref v11, .ref v15] (fun lq rq Sq hq => m_X8_take Z lq v11 v15 S hq) dX8_back_18 mi_X8_take ml_RX8_267 ⟨Nat.le_of_ble_eq_true rfl, Nat.le_of_ble_eq_true rfl, rfl, rfl⟩ rfl (Nat.le_of_ble_eq_true rfl) rfl (fun _ S18 => ?_)
    refine sm_iconst (pc := 21) (0 : Int32) dX8_back_21 (by decide) ?_
    refine sm_istore_n (pc := 22) (lv' := [(1, .int (0 : Int32)), (0, .ref c)]) dX8_back_22 rfl (by decide) rfl ?_
    refine sm_sub [1, 0] rfl ?_
    exact sL_X8_back_23 Z  6000 c (0 : Int32) S18
  refine sm_bipush (pc := 7) (-5 : Int32) dX8_back_7 (by decide) ?_
  exact sm_retI (pc := 9) dX8_back_9
set_option maxRecDepth 20000 in
set_option maxHeartbeats 4000000 in
theorem m_X8_back (Z : ZT) (l : Launch) (c : Nat) (S : St) {r : Int32} {S' : St} (h : F_X8_back c S = some (r, S')) : MetX Z l yX8_back cX8_back 2 (some .int) rm_X8_back [.ref c] S (eI r) S' := Sim.met (by decide +kernel) rfl (Nat.le_of_ble_eq_true rfl) (s_X8_back Z c S) l h
set_option maxRecDepth 20000 in
set_option maxHeartbeats 4000000 in
theorem sJ_X8_hold_21 (Z : ZT)    (S : St) : Sim eI Z rm_X8_hold RX8 cX8_hold 4 (some .int) 21 [] [] S (J_X8_hold_21  S) := by
  unfold J_X8_hold_21
  refine sm_iconst (pc := 21) (-1 : Int32) dX8_hold_21 (by decide) ?_
  exact sm_retI (pc := 22) dX8_hold_22
set_option maxRecDepth 20000 in
set_option maxHeartbeats 4000000 in
theorem sJ_X8_hold_94 (Z : ZT)    (S : St) : Sim eI Z rm_X8_hold RX8 cX8_hold 4 (some .int) 94 [] [] S (J_X8_hold_94  S) := by
  unfold J_X8_hold_94
  refine sm_iconst (pc := 94) (1 : Int32) dX8_hold_94 (by decide) ?_
  exact sm_retI (pc := 95) dX8_hold_95
set_option maxRecDepth 20000 in
set_option maxHeartbeats 4000000 in
theorem sJ_X8_hold_53 (Z : ZT)  (x0 : Nat) (x1 : Int32) (x2 : Int32) (x3 : Int32) (t0 : Int32) (t1 : Int32) (t2 : Nat) (S : St) : Sim eI Z rm_X8_hold RX8 cX8_hold 4 (some .int) 53 [(0, .ref x0), (1, .int x1), (2, .int x2), (3, .int x3)] [.int t0, .int t1, .ref t2] S (J_X8_hold_53  x0 x1 x2 x3 t0 t1 t2 S) := by
  unfold J_X8_hold_53
  refine sm_sI (pc := 53) dX8_hold_53 (fun S53 => ?_)
  refine sm_aload_n (pc := 54) dX8_hold_54 rfl 0 rfl ?_
  refine sm_getR (pc := 55) dX8_hold_55 fr_RX8_44 (by decide) rfl (fun v55 => ?_)
  refine sm_iload_n (pc := 58) dX8_hold_58 rfl 1 rfl ?_
  refine sm_iload_n (pc := 59) dX8_hold_59 rfl 2 rfl ?_
  refine sm_sI (pc := 60) dX8_hold_60 (fun S60 => ?_)
  refine sm_iload_n (pc := 61) dX8_hold_61 rfl 3 rfl ?_
  refine sm_if_lt 94 (pc := 62) dX8_hold_62 rfl ?_ ?_
  · refine sm_sub [] rfl ?_
    exact sJ_X8_hold_94 Z  S60
  refine sm_aload_n (pc := 65) dX8_hold_65 rfl 0 rfl ?_
  refine sm_getR (pc := 66) dX8_hold_66 fr_RX8_47 (by decide) rfl (fun v66 => ?_)
  refine sm_iload_n (pc := 69) dX8_hold_69 rfl 1 rfl ?_
  refine sm_aload_n (pc := 70) dX8_hold_70 rfl 0 rfl ?_
  refine sm_iload_n (pc := 71) dX8_hold_71 rfl 2 rfl ?_
  refine sm_bipush (pc := 72) (15 : Int32) dX8_hold_72 (by decide) ?_
  refine sm_iconst (pc := 74) (5 : Int32) dX8_hold_74 (by decide) ?_
  refine sm_iload_n (pc := 75) dX8_hold_75 rfl 3 rfl ?_
  refine sm_imul (pc := 76) dX8_hold_76 ?_
  refine sm_iadd (pc := 77) dX8_hold_77 ?_
  refine sm_callVL (pc := 78) [.int x2, .int ((15 : Int32) + ((5 : Int32) * x3))] (fun lq rq Sq hq => m_X8_at Z lq x0 x2 ((15 : Int32) + ((5 : Int32) * x3)) S60 hq) dX8_hold_78 mi_X8_at ml_RX8_136 ⟨Nat.le_of_ble_eq_true rfl, Nat.le_of_ble_eq_true rfl, rfl, rfl⟩ rfl (by decide) rfl (Nat.le_of_ble_eq_true rfl) rfl (fun r78 S78 => ?_)
  refine sm_sJ (pc := 81) dX8_hold_81 (fun S81 => ?_)
  refine sm_aload_n (pc := 82) dX8_hold_82 rfl 0 rfl ?_
  refine sm_getR (pc := 83) dX8_hold_83 fr_RX8_50 (by decide) rfl (fun v83 => ?_)
  refine sm_iload_n (pc := 86) dX8_hold_86 rfl 1 rfl ?_
  refine sm_aload_n (pc := 87) dX8_hold_87 rfl 0 rfl ?_
  refine sm_iload_n (pc := 88) dX8_hold_88 rfl 2 rfl ?_
  refine sm_iload_n (pc := 89) dX8_hold_89 rfl 3 rfl ?_
  refine sm_callVL (pc := 90) [.int x2, .int x3] (fun lq rq Sq hq => m_X8_asks Z lq x0 x2 x3 S81 hq) dX8_hold_90 mi_X8_asks ml_RX8_191 ⟨Nat.le_of_ble_eq_true rfl, Nat.le_of_ble_eq_true rfl, rfl, rfl⟩ rfl (by decide) rfl (Nat.le_of_ble_eq_true rfl) rfl (fun r90 S90 => ?_)
  refine sm_sJ (pc := 93) dX8_hold_93 (fun S93 => ?_)
  refine sm_sub [] rfl ?_
  exact sJ_X8_hold_94 Z  S93
set_option maxRecDepth 20000 in
set_option maxHeartbeats 4000000 in
theorem s_X8_hold (Z : ZT) (c : Nat) (a1 : Int32) (a2 : Int32) (a3 : Int32) (S : St) : Sim eI Z rm_X8_hold RX8 cX8_hold 4 (some .int) 0 [(0, .ref c), (1, .int a1), (2, .int a2), (3, .int a3)] [] S (F_X8_hold c a1 a2 a3 S) := by
  unfold F_X8_hold
  refine sm_aload_n (pc := 0) dX8_hold_0 rfl 0 rfl ?_
  refine sm_iload_n (pc := 1) dX8_hold_1 rfl 1 rfl ?_
  refine sm_callVI (pc := 2) [.int a1] (fun lq rq Sq hq => m_X8_isHolder Z lq c a1 S hq) dX8_hold_2 mi_X8_isHolder ml_RX8_274 ⟨Nat.le_of_ble_eq_true rfl, Nat.le_of_ble_eq_true rfl, rfl, rfl⟩ rfl (by decide) rfl (Nat.le_of_ble_eq_true rfl) rfl (fun r2 S2 => ?_)
  refine sm_if_eq 21 (pc := 5) dX8_hold_5 rfl ?_ ?_
  · refine sm_sub [] rfl ?_
    exact sJ_X8_hold_21 Z  S2
  refine sm_aload_n (pc := 8) dX8_hold_8 rfl 0 rfl ?_
  refine sm_iload_n (pc := 9) dX8_hold_9 rfl 2 rfl ?_
  refine sm_callVI (pc := 10) [.int a2] (fun lq rq Sq hq => m_X8_isLoan Z lq c a2 S2 hq) dX8_hold_10 mi_X8_isLoan ml_RX8_197 ⟨Nat.le_of_ble_eq_true rfl, Nat.le_of_ble_eq_true rfl, rfl, rfl⟩ rfl (by decide) rfl (Nat.le_of_ble_eq_true rfl) rfl (fun r10 S10 => ?_)
  refine sm_if_eq 21 (pc := 13) dX8_hold_13 rfl ?_ ?_
  · refine sm_sub [] rfl ?_
    exact sJ_X8_hold_21 Z  S10
  refine sm_iload_n (pc := 16) dX8_hold_16 rfl 3 rfl ?_
  refine sm_iconst (pc := 17) (-1 : Int32) dX8_hold_17 (by decide) ?_
  refine sm_icmp_ge 23 (pc := 18) dX8_hold_18 rfl ?_ ?_
  · refine sm_iload_n (pc := 23) dX8_hold_23 rfl 3 rfl ?_
    refine sm_i2l (pc := 24) dX8_hold_24 ?_
    refine sm_aload_n (pc := 25) dX8_hold_25 rfl 0 rfl ?_
    refine sm_iload_n (pc := 26) dX8_hold_26 rfl 2 rfl ?_
    refine sm_bipush (pc := 27) (14 : Int32) dX8_hold_27 (by decide) ?_
    refine sm_callVL (pc := 29) [.int a2, .int (14 : Int32)] (fun lq rq Sq hq => m_X8_at Z lq c a2 (14 : Int32) S10 hq) dX8_hold_29 mi_X8_at ml_RX8_136 ⟨Nat.le_of_ble_eq_true rfl, Nat.le_of_ble_eq_true rfl, rfl, rfl⟩ rfl (by decide) rfl (Nat.le_of_ble_eq_true rfl) rfl (fun r29 S29 => ?_)
    refine sm_lcmp_lt 39 (pc := 32) dX8_hold_32 dX8_hold_33 rfl ?_ ?_
    · refine sm_aload_n (pc := 39) dX8_hold_39 rfl 0 rfl ?_
      refine sm_getR (pc := 40) dX8_hold_40 fr_RX8_41 (by decide) rfl (fun v40 => ?_)
      refine sm_iload_n (pc := 43) dX8_hold_43 rfl 1 rfl ?_
      refine sm_iload_n (pc := 44) dX8_hold_44 rfl 3 rfl ?_
      refine sm_if_ge 52 (pc := 45) dX8_hold_45 rfl ?_ ?_
      · refine sm_iconst (pc := 52) (2 : Int32) dX8_hold_52 (by decide) ?_
        refine sm_sub [0, 1, 2, 3] rfl ?_
        exact sJ_X8_hold_53 Z  c a1 a2 a3 (2 : Int32) a1 v40 S29
      refine sm_iconst (pc := 48) (1 : Int32) dX8_hold_48 (by decide) ?_
      refine sm_goto 53 (pc := 49) dX8_hold_49 rfl ?_
      refine sm_sub [0, 1, 2, 3] rfl ?_
      exact sJ_X8_hold_53 Z  c a1 a2 a3 (1 : Int32) a1 v40 S29
    refine sm_bipush (pc := 36) (-2 : Int32) dX8_hold_36 (by decide) ?_
    exact sm_retI (pc := 38) dX8_hold_38
  refine sm_sub [] rfl ?_
  exact sJ_X8_hold_21 Z  S10
set_option maxRecDepth 20000 in
set_option maxHeartbeats 4000000 in
theorem m_X8_hold (Z : ZT) (l : Launch) (c : Nat) (a1 : Int32) (a2 : Int32) (a3 : Int32) (S : St) {r : Int32} {S' : St} (h : F_X8_hold c a1 a2 a3 S = some (r, S')) : MetX Z l yX8_hold cX8_hold 4 (some .int) rm_X8_hold [.ref c, .int a1, .int a2, .int a3] S (eI r) S' := Sim.met (by decide +kernel) rfl (Nat.le_of_ble_eq_true rfl) (s_X8_hold Z c a1 a2 a3 S) l h
set_option maxRecDepth 20000 in
set_option maxHeartbeats 4000000 in
theorem sJ_X8_row_14 (Z : ZT)    (S : St) : Sim eI Z rm_X8_row RX8 cX8_row 4 (some .int) 14 [] [] S (J_X8_row_14  S) := by
  unfold J_X8_row_14
  refine sm_iconst (pc := 14) (-1 : Int32) dX8_row_14 (by decide) ?_
  exact sm_retI (pc := 15) dX8_row_15
set_option maxRecDepth 20000 in
set_option maxHeartbeats 4000000 in
theorem sB_X8_row_56 (Z : ZT) (rec56 : (Nat → Int32 → Int32 → St → Option (Int32 × St))) (h56 : ∀ (x0 : Nat) (x1 : Int32) (x3 : Int32)  (S : St), Sim eI Z rm_X8_row RX8 cX8_row 4 (some .int) 56 [(0, .ref x0), (1, .int x1), (3, .int x3)] [] S (rec56 x0 x1 x3 S)) (x0 : Nat) (x1 : Int32) (x3 : Int32)  (S : St) : Sim eI Z rm_X8_row RX8 cX8_row 4 (some .int) 56 [(0, .ref x0), (1, .int x1), (3, .int x3)] [] S (B_X8_row_56 rec56 x0 x1 x3 S) := by
  unfold B_X8_row_56
  refine sm_iload_n (pc := 56) dX8_row_56 rfl 2 rfl ?_
  refine sm_bipush (pc := 57) (60 : Int32) dX8_row_57 (by decide) ?_
  refine sm_icmp_ge 77 (pc := 59) dX8_row_59 rfl ?_ ?_
  · refine sm_iconst (pc := 77) (1 : Int32) dX8_row_77 (by decide) ?_
    exact sm_retI (pc := 78) dX8_row_78
  refine sm_aload_n (pc := 62) dX8_row_62 rfl 0 rfl ?_
  refine sm_getR (pc := 63) dX8_row_63 fr_RX8_58 (by decide) rfl (fun v63 => ?_)
  refine sm_iload_n (pc := 66) dX8_row_66 rfl 1 rfl ?_
  refine sm_aR (pc := 67) dX8_row_67 (by decide) (fun v67 => ?_)
  refine sm_iload_n (pc := 68) dX8_row_68 rfl 2 rfl ?_
  refine sm_lconst (pc := 69) (0 : Int64) dX8_row_69 (by decide) ?_
  refine sm_sJ (pc := 70) dX8_row_70 (fun S70 => ?_)
  refine sm_iinc (pc := 71) (x3 + 1) (lv' := [(3, .int (x3 + 1)), (0, .ref x0), (1, .int x1)]) dX8_row_71 2 rfl rfl (by decide) rfl ?_
  refine sm_goto 56 (pc := 74) dX8_row_74 rfl ?_
  refine sm_sub [1, 2, 0] rfl ?_
  exact h56 x0 x1 (x3 + 1) S70
set_option maxRecDepth 20000 in
set_option maxHeartbeats 4000000 in
theorem sL_X8_row_56 (Z : ZT)  (n : Nat) : ∀ (x0 : Nat) (x1 : Int32) (x3 : Int32)  (S : St), Sim eI Z rm_X8_row RX8 cX8_row 4 (some .int) 56 [(0, .ref x0), (1, .int x1), (3, .int x3)] [] S (L_X8_row_56  n x0 x1 x3 S) := by
  induction n with
  | zero => intros; exact sm_none
  | succ n ih => intro x0 x1 x3 S; exact sB_X8_row_56 Z  (L_X8_row_56  n) ih x0 x1 x3 S
set_option maxRecDepth 20000 in
set_option maxHeartbeats 4000000 in
theorem sJ_X8_row_53 (Z : ZT)  (x0 : Nat) (x1 : Int32) (t0 : Int32) (t1 : Int32) (t2 : Nat) (S : St) : Sim eI Z rm_X8_row RX8 cX8_row 4 (some .int) 53 [(0, .ref x0), (1, .int x1)] [.int t0, .int t1, .ref t2] S (J_X8_row_53  x0 x1 t0 t1 t2 S) := by
  unfold J_X8_row_53
  refine sm_sI (pc := 53) dX8_row_53 (fun S53 => ?_)
  refine sm_iconst (pc := 54) (0 : Int32) dX8_row_54 (by decide) ?_
  refine sm_istore_n (pc := 55) (lv' := [(3, .int (0 : Int32)), (0, .ref x0), (1, .int x1)]) dX8_row_55 rfl (by decide) rfl ?_
  refine sm_sub [1, 2, 0] rfl ?_
  exact sL_X8_row_56 Z  6000 x0 x1 (0 : Int32) S53
set_option maxRecDepth 20000 in
set_option maxHeartbeats 4000000 in
theorem sJ_X8_row_38 (Z : ZT)  (x0 : Nat) (x1 : Int32) (x2 : Int32) (t0 : Int32) (t1 : Int32) (t2 : Nat) (S : St) : Sim eI Z rm_X8_row RX8 cX8_row 4 (some .int) 38 [(0, .ref x0), (1, .int x1), (2, .int x2)] [.int t0, .int t1, .ref t2] S (J_X8_row_38  x0 x1 x2 t0 t1 t2 S) := by
  unfold J_X8_row_38
  refine sm_sI (pc := 38) dX8_row_38 (fun S38 => ?_)
  refine sm_aload_n (pc := 39) dX8_row_39 rfl 0 rfl ?_
  refine sm_getR (pc := 40) dX8_row_40 fr_RX8_53 (by decide) rfl (fun v40 => ?_)
  refine sm_iload_n (pc := 43) dX8_row_43 rfl 1 rfl ?_
  refine sm_iload_n (pc := 44) dX8_row_44 rfl 2 rfl ?_
  refine sm_if_ge 52 (pc := 45) dX8_row_45 rfl ?_ ?_
  · refine sm_iload_n (pc := 52) dX8_row_52 rfl 2 rfl ?_
    refine sm_sub [0, 1] rfl ?_
    exact sJ_X8_row_53 Z  x0 x1 x2 x1 v40 S38
  refine sm_iconst (pc := 48) (0 : Int32) dX8_row_48 (by decide) ?_
  refine sm_goto 53 (pc := 49) dX8_row_49 rfl ?_
  refine sm_sub [0, 1] rfl ?_
  exact sJ_X8_row_53 Z  x0 x1 (0 : Int32) x1 v40 S38
set_option maxRecDepth 20000 in
set_option maxHeartbeats 4000000 in
theorem s_X8_row (Z : ZT) (c : Nat) (a1 : Int32) (a2 : Int32) (S : St) : Sim eI Z rm_X8_row RX8 cX8_row 4 (some .int) 0 [(0, .ref c), (1, .int a1), (2, .int a2)] [] S (F_X8_row c a1 a2 S) := by
  unfold F_X8_row
  refine sm_aload_n (pc := 0) dX8_row_0 rfl 0 rfl ?_
  refine sm_iload_n (pc := 1) dX8_row_1 rfl 1 rfl ?_
  refine sm_callVI (pc := 2) [.int a1] (fun lq rq Sq hq => m_X8_isHolder Z lq c a1 S hq) dX8_row_2 mi_X8_isHolder ml_RX8_274 ⟨Nat.le_of_ble_eq_true rfl, Nat.le_of_ble_eq_true rfl, rfl, rfl⟩ rfl (by decide) rfl (Nat.le_of_ble_eq_true rfl) rfl (fun r2 S2 => ?_)
  refine sm_if_eq 14 (pc := 5) dX8_row_5 rfl ?_ ?_
  · refine sm_sub [] rfl ?_
    exact sJ_X8_row_14 Z  S2
  refine sm_iload_n (pc := 8) dX8_row_8 rfl 2 rfl ?_
  refine sm_bipush (pc := 9) (60 : Int32) dX8_row_9 (by decide) ?_
  refine sm_icmp_le 16 (pc := 11) dX8_row_11 rfl ?_ ?_
  · refine sm_iload_n (pc := 16) dX8_row_16 rfl 2 rfl ?_
    refine sm_iconst (pc := 17) (-1 : Int32) dX8_row_17 (by decide) ?_
    refine sm_icmp_ge 24 (pc := 18) dX8_row_18 rfl ?_ ?_
    · refine sm_aload_n (pc := 24) dX8_row_24 rfl 0 rfl ?_
      refine sm_getR (pc := 25) dX8_row_25 fr_RX8_41 (by decide) rfl (fun v25 => ?_)
      refine sm_iload_n (pc := 28) dX8_row_28 rfl 1 rfl ?_
      refine sm_iload_n (pc := 29) dX8_row_29 rfl 2 rfl ?_
      refine sm_if_ge 37 (pc := 30) dX8_row_30 rfl ?_ ?_
      · refine sm_iconst (pc := 37) (3 : Int32) dX8_row_37 (by decide) ?_
        refine sm_sub [0, 1, 2] rfl ?_
        exact sJ_X8_row_38 Z  c a1 a2 (3 : Int32) a1 v25 S2
      refine sm_iconst (pc := 33) (0 : Int32) dX8_row_33 (by decide) ?_
      refine sm_goto 38 (pc := 34) dX8_row_34 rfl ?_
      refine sm_sub [0, 1, 2] rfl ?_
      exact sJ_X8_row_38 Z  c a1 a2 (0 : Int32) a1 v25 S2
    refine sm_bipush (pc := 21) (-14 : Int32) dX8_row_21 (by decide) ?_
    exact sm_retI (pc := 23) dX8_row_23
  refine sm_sub [] rfl ?_
  exact sJ_X8_row_14 Z  S2
set_option maxRecDepth 20000 in
set_option maxHeartbeats 4000000 in
theorem m_X8_row (Z : ZT) (l : Launch) (c : Nat) (a1 : Int32) (a2 : Int32) (S : St) {r : Int32} {S' : St} (h : F_X8_row c a1 a2 S = some (r, S')) : MetX Z l yX8_row cX8_row 4 (some .int) rm_X8_row [.ref c, .int a1, .int a2] S (eI r) S' := Sim.met (by decide +kernel) rfl (Nat.le_of_ble_eq_true rfl) (s_X8_row Z c a1 a2 S) l h
set_option maxRecDepth 20000 in
set_option maxHeartbeats 4000000 in
theorem sJ_X8_put_36 (Z : ZT)   (t0 : Int32) (S : St) : Sim eI Z rm_X8_put RX8 cX8_put 5 (some .int) 36 [] [.int t0] S (J_X8_put_36  t0 S) := by
  unfold J_X8_put_36
  exact sm_retI (pc := 36) dX8_put_36
set_option maxRecDepth 20000 in
set_option maxHeartbeats 4000000 in
theorem s_X8_put (Z : ZT) (c : Nat) (a1 : Int32) (a2 : Int32) (a3 : Int64) (S : St) : Sim eI Z rm_X8_put RX8 cX8_put 5 (some .int) 0 [(0, .ref c), (1, .int a1), (2, .int a2), (3, .long a3)] [] S (F_X8_put c a1 a2 a3 S) := by
  unfold F_X8_put
  refine sm_aload_n (pc := 0) dX8_put_0 rfl 0 rfl ?_
  refine sm_iload_n (pc := 1) dX8_put_1 rfl 1 rfl ?_
  refine sm_callVI (pc := 2) [.int a1] (fun lq rq Sq hq => m_X8_isHolder Z lq c a1 S hq) dX8_put_2 mi_X8_isHolder ml_RX8_274 ⟨Nat.le_of_ble_eq_true rfl, Nat.le_of_ble_eq_true rfl, rfl, rfl⟩ rfl (by decide) rfl (Nat.le_of_ble_eq_true rfl) rfl (fun r2 S2 => ?_)
  refine sm_if_ne 10 (pc := 5) dX8_put_5 rfl ?_ ?_
  · refine sm_aload_n (pc := 10) dX8_put_10 rfl 0 rfl ?_
    refine sm_getR (pc := 11) dX8_put_11 fr_RX8_41 (by decide) rfl (fun v11 => ?_)
    refine sm_iload_n (pc := 14) dX8_put_14 rfl 1 rfl ?_
    refine sm_aI (pc := 15) dX8_put_15 (fun v15 => ?_)
    refine sm_iconst (pc := 16) (3 : Int32) dX8_put_16 (by decide) ?_
    refine sm_icmp_eq 37 (pc := 17) dX8_put_17 rfl ?_ ?_
    · refine sm_iload_n (pc := 37) dX8_put_37 rfl 2 rfl ?_
      refine sm_i2l (pc := 38) dX8_put_38 ?_
      refine sm_lconst (pc := 39) (0 : Int64) dX8_put_39 (by decide) ?_
      refine sm_aload_n (pc := 40) dX8_put_40 rfl 0 rfl ?_
      refine sm_getR (pc := 41) dX8_put_41 fr_RX8_53 (by decide) rfl (fun v41 => ?_)
      refine sm_iload_n (pc := 44) dX8_put_44 rfl 1 rfl ?_
      refine sm_aI (pc := 45) dX8_put_45 (fun v45 => ?_)
      refine sm_iconst (pc := 46) (1 : Int32) dX8_put_46 (by decide) ?_
      refine sm_isub (pc := 47) dX8_put_47 ?_
      refine sm_i2l (pc := 48) dX8_put_48 ?_
      refine sm_callSI (pc := 49) [.long (Int32.toInt64 a2), .long (0 : Int64), .long (Int32.toInt64 (v45 - (1 : Int32)))] (fun lq rq Sq hq => m_X8_in Z lq (Int32.toInt64 a2) (0 : Int64) (Int32.toInt64 (v45 - (1 : Int32))) S2 hq) dX8_put_49 mi_X8_in ml_RX8_85 ⟨Nat.le_of_ble_eq_true rfl, Nat.le_of_ble_eq_true rfl, rfl, rfl⟩ rfl (Nat.le_of_ble_eq_true rfl) rfl (fun r49 S49 => ?_)
      refine sm_if_ne 58 (pc := 52) dX8_put_52 rfl ?_ ?_
      · refine sm_aload_n (pc := 58) dX8_put_58 rfl 0 rfl ?_
        refine sm_getR (pc := 59) dX8_put_59 fr_RX8_58 (by decide) rfl (fun v59 => ?_)
        refine sm_iload_n (pc := 62) dX8_put_62 rfl 1 rfl ?_
        refine sm_aR (pc := 63) dX8_put_63 (by decide) (fun v63 => ?_)
        refine sm_iload_n (pc := 64) dX8_put_64 rfl 2 rfl ?_
        refine sm_lload_n (pc := 65) dX8_put_65 rfl 3 rfl ?_
        refine sm_sJ (pc := 66) dX8_put_66 (fun S66 => ?_)
        refine sm_iconst (pc := 67) (1 : Int32) dX8_put_67 (by decide) ?_
        exact sm_retI (pc := 68) dX8_put_68
      refine sm_bipush (pc := 55) (-13 : Int32) dX8_put_55 (by decide) ?_
      exact sm_retI (pc := 57) dX8_put_57
    refine sm_aload_n (pc := 20) dX8_put_20 rfl 0 rfl ?_
    refine sm_getR (pc := 21) dX8_put_21 fr_RX8_41 (by decide) rfl (fun v21 => ?_)
    refine sm_iload_n (pc := 24) dX8_put_24 rfl 1 rfl ?_
    refine sm_aI (pc := 25) dX8_put_25 (fun v25 => ?_)
    refine sm_if_ne 34 (pc := 26) dX8_put_26 rfl ?_ ?_
    · refine sm_bipush (pc := 34) (-12 : Int32) dX8_put_34 (by decide) ?_
      refine sm_sub [] rfl ?_
      exact sJ_X8_put_36 Z  (-12 : Int32) S2
    refine sm_bipush (pc := 29) (-11 : Int32) dX8_put_29 (by decide) ?_
    refine sm_goto 36 (pc := 31) dX8_put_31 rfl ?_
    refine sm_sub [] rfl ?_
    exact sJ_X8_put_36 Z  (-11 : Int32) S2
  refine sm_iconst (pc := 8) (-1 : Int32) dX8_put_8 (by decide) ?_
  exact sm_retI (pc := 9) dX8_put_9
set_option maxRecDepth 20000 in
set_option maxHeartbeats 4000000 in
theorem m_X8_put (Z : ZT) (l : Launch) (c : Nat) (a1 : Int32) (a2 : Int32) (a3 : Int64) (S : St) {r : Int32} {S' : St} (h : F_X8_put c a1 a2 a3 S = some (r, S')) : MetX Z l yX8_put cX8_put 5 (some .int) rm_X8_put [.ref c, .int a1, .int a2, .long a3] S (eI r) S' := Sim.met (by decide +kernel) rfl (Nat.le_of_ble_eq_true rfl) (s_X8_put Z c a1 a2 a3 S) l h
set_option maxRecDepth 20000 in
set_option maxHeartbeats 4000000 in
theorem sJ_X8_tells_20 (Z : ZT)    (S : St) : Sim eL Z rm_X8_tells RX8 cX8_tells 4 (some .long) 20 [] [] S (J_X8_tells_20  S) := by
  unfold J_X8_tells_20
  refine sm_ldc2 (pc := 20) (-1 : Int64) dX8_tells_20 kc_RX8_134 ?_
  exact sm_retL (pc := 23) dX8_tells_23
set_option maxRecDepth 20000 in
set_option maxHeartbeats 4000000 in
theorem sJ_X8_tells_109 (Z : ZT)   (t0 : Int64) (S : St) : Sim eL Z rm_X8_tells RX8 cX8_tells 4 (some .long) 109 [] [.long t0] S (J_X8_tells_109  t0 S) := by
  unfold J_X8_tells_109
  exact sm_retL (pc := 109) dX8_tells_109
set_option maxRecDepth 20000 in
set_option maxHeartbeats 4000000 in
theorem sJ_X8_tells_133 (Z : ZT)   (t0 : Int64) (S : St) : Sim eL Z rm_X8_tells RX8 cX8_tells 4 (some .long) 133 [] [.long t0] S (J_X8_tells_133  t0 S) := by
  unfold J_X8_tells_133
  exact sm_retL (pc := 133) dX8_tells_133
set_option maxRecDepth 20000 in
set_option maxHeartbeats 4000000 in
theorem sJ_X8_tells_156 (Z : ZT)   (t0 : Int64) (S : St) : Sim eL Z rm_X8_tells RX8 cX8_tells 4 (some .long) 156 [] [.long t0] S (J_X8_tells_156  t0 S) := by
  unfold J_X8_tells_156
  exact sm_retL (pc := 156) dX8_tells_156
set_option maxRecDepth 20000 in
set_option maxHeartbeats 4000000 in
theorem sJ_X8_tells_191 (Z : ZT)   (t0 : Int64) (S : St) : Sim eL Z rm_X8_tells RX8 cX8_tells 4 (some .long) 191 [] [.long t0] S (J_X8_tells_191  t0 S) := by
  unfold J_X8_tells_191
  exact sm_retL (pc := 191) dX8_tells_191
set_option maxRecDepth 20000 in
set_option maxHeartbeats 4000000 in
theorem sJ_X8_tells_188 (Z : ZT)    (S : St) : Sim eL Z rm_X8_tells RX8 cX8_tells 4 (some .long) 188 [] [] S (J_X8_tells_188  S) := by
  unfold J_X8_tells_188
  refine sm_ldc2 (pc := 188) (-12 : Int64) dX8_tells_188 kc_RX8_338 ?_
  refine sm_sub [] rfl ?_
  exact sJ_X8_tells_191 Z  (-12 : Int64) S
set_option maxRecDepth 20000 in
set_option maxHeartbeats 4000000 in
theorem s_X8_tells (Z : ZT) (c : Nat) (a1 : Int32) (a2 : Int32) (S : St) : Sim eL Z rm_X8_tells RX8 cX8_tells 4 (some .long) 0 [(0, .ref c), (1, .int a1), (2, .int a2)] [] S (F_X8_tells c a1 a2 S) := by
  unfold F_X8_tells
  refine sm_aload_n (pc := 0) dX8_tells_0 rfl 0 rfl ?_
  refine sm_iload_n (pc := 1) dX8_tells_1 rfl 1 rfl ?_
  refine sm_callVI (pc := 2) [.int a1] (fun lq rq Sq hq => m_X8_isHolder Z lq c a1 S hq) dX8_tells_2 mi_X8_isHolder ml_RX8_274 ⟨Nat.le_of_ble_eq_true rfl, Nat.le_of_ble_eq_true rfl, rfl, rfl⟩ rfl (by decide) rfl (Nat.le_of_ble_eq_true rfl) rfl (fun r2 S2 => ?_)
  refine sm_if_eq 20 (pc := 5) dX8_tells_5 rfl ?_ ?_
  · refine sm_sub [] rfl ?_
    exact sJ_X8_tells_20 Z  S2
  refine sm_iload_n (pc := 8) dX8_tells_8 rfl 2 rfl ?_
  refine sm_i2l (pc := 9) dX8_tells_9 ?_
  refine sm_lconst (pc := 10) (0 : Int64) dX8_tells_10 (by decide) ?_
  refine sm_ldc2 (pc := 11) (3 : Int64) dX8_tells_11 kc_RX8_92 ?_
  refine sm_callSI (pc := 14) [.long (Int32.toInt64 a2), .long (0 : Int64), .long (3 : Int64)] (fun lq rq Sq hq => m_X8_in Z lq (Int32.toInt64 a2) (0 : Int64) (3 : Int64) S2 hq) dX8_tells_14 mi_X8_in ml_RX8_85 ⟨Nat.le_of_ble_eq_true rfl, Nat.le_of_ble_eq_true rfl, rfl, rfl⟩ rfl (Nat.le_of_ble_eq_true rfl) rfl (fun r14 S14 => ?_)
  refine sm_if_ne 24 (pc := 17) dX8_tells_17 rfl ?_ ?_
  · refine sm_aload_n (pc := 24) dX8_tells_24 rfl 0 rfl ?_
    refine sm_getR (pc := 25) dX8_tells_25 fr_RX8_41 (by decide) rfl (fun v25 => ?_)
    refine sm_iload_n (pc := 28) dX8_tells_28 rfl 1 rfl ?_
    refine sm_aI (pc := 29) dX8_tells_29 (fun v29 => ?_)
    refine sm_if_ne 37 (pc := 30) dX8_tells_30 rfl ?_ ?_
    · refine sm_aload_n (pc := 37) dX8_tells_37 rfl 0 rfl ?_
      refine sm_getR (pc := 38) dX8_tells_38 fr_RX8_44 (by decide) rfl (fun v38 => ?_)
      refine sm_iload_n (pc := 41) dX8_tells_41 rfl 1 rfl ?_
      refine sm_aI (pc := 42) dX8_tells_42 (fun v42 => ?_)
      refine sm_istore_n (pc := 43) (lv' := [(3, .int v42), (0, .ref c), (1, .int a1), (2, .int a2)]) dX8_tells_43 rfl (by decide) rfl ?_
      refine sm_iload_n (pc := 44) dX8_tells_44 rfl 3 rfl ?_
      refine sm_tswk (pc := 45) 157 [72, 110, 134] [0, 1, 2] dX8_tells_45 rfl (by decide) (by decide) (by decide) rfl ⟨?_, ?_, ?_, trivial⟩ ?_
      · refine sm_aload_n (pc := 72) dX8_tells_72 rfl 1 rfl ?_
        refine sm_getR (pc := 73) dX8_tells_73 fr_RX8_41 (by decide) rfl (fun v73 => ?_)
        refine sm_iload_n (pc := 76) dX8_tells_76 rfl 2 rfl ?_
        refine sm_aI (pc := 77) dX8_tells_77 (fun v77 => ?_)
        refine sm_iconst (pc := 78) (3 : Int32) dX8_tells_78 (by decide) ?_
        refine sm_icmp_ne 88 (pc := 79) dX8_tells_79 rfl ?_ ?_
        · refine sm_aload_n (pc := 88) dX8_tells_88 rfl 1 rfl ?_
          refine sm_getR (pc := 89) dX8_tells_89 fr_RX8_41 (by decide) rfl (fun v89 => ?_)
          refine sm_iload_n (pc := 92) dX8_tells_92 rfl 2 rfl ?_
          refine sm_aI (pc := 93) dX8_tells_93 (fun v93 => ?_)
          refine sm_iconst (pc := 94) (1 : Int32) dX8_tells_94 (by decide) ?_
          refine sm_icmp_ne 103 (pc := 95) dX8_tells_95 rfl ?_ ?_
          · refine sm_aload_n (pc := 103) dX8_tells_103 rfl 1 rfl ?_
            refine sm_getR (pc := 104) dX8_tells_104 fr_RX8_47 (by decide) rfl (fun v104 => ?_)
            refine sm_iload_n (pc := 107) dX8_tells_107 rfl 2 rfl ?_
            refine sm_aJ (pc := 108) dX8_tells_108 (fun v108 => ?_)
            refine sm_sub [] rfl ?_
            exact sJ_X8_tells_109 Z  v108 S14
          refine sm_iload_n (pc := 98) dX8_tells_98 rfl 0 rfl ?_
          refine sm_i2l (pc := 99) dX8_tells_99 ?_
          refine sm_goto 109 (pc := 100) dX8_tells_100 rfl ?_
          refine sm_sub [] rfl ?_
          exact sJ_X8_tells_109 Z  (Int32.toInt64 v42) S14
        refine sm_ldc2 (pc := 82) (-12 : Int64) dX8_tells_82 kc_RX8_338 ?_
        refine sm_goto 109 (pc := 85) dX8_tells_85 rfl ?_
        refine sm_sub [] rfl ?_
        exact sJ_X8_tells_109 Z  (-12 : Int64) S14
      · refine sm_aload_n (pc := 110) dX8_tells_110 rfl 1 rfl ?_
        refine sm_getR (pc := 111) dX8_tells_111 fr_RX8_41 (by decide) rfl (fun v111 => ?_)
        refine sm_iload_n (pc := 114) dX8_tells_114 rfl 2 rfl ?_
        refine sm_aI (pc := 115) dX8_tells_115 (fun v115 => ?_)
        refine sm_iconst (pc := 116) (1 : Int32) dX8_tells_116 (by decide) ?_
        refine sm_icmp_ne 130 (pc := 117) dX8_tells_117 rfl ?_ ?_
        · refine sm_ldc2 (pc := 130) (-12 : Int64) dX8_tells_130 kc_RX8_338 ?_
          refine sm_sub [] rfl ?_
          exact sJ_X8_tells_133 Z  (-12 : Int64) S14
        refine sm_aload_n (pc := 120) dX8_tells_120 rfl 1 rfl ?_
        refine sm_iload_n (pc := 121) dX8_tells_121 rfl 0 rfl ?_
        refine sm_bipush (pc := 122) (8 : Int32) dX8_tells_122 (by decide) ?_
        refine sm_callVL (pc := 124) [.int v42, .int (8 : Int32)] (fun lq rq Sq hq => m_X8_at Z lq c v42 (8 : Int32) S14 hq) dX8_tells_124 mi_X8_at ml_RX8_136 ⟨Nat.le_of_ble_eq_true rfl, Nat.le_of_ble_eq_true rfl, rfl, rfl⟩ rfl (by decide) rfl (Nat.le_of_ble_eq_true rfl) rfl (fun r124 S124 => ?_)
        refine sm_goto 133 (pc := 127) dX8_tells_127 rfl ?_
        refine sm_sub [] rfl ?_
        exact sJ_X8_tells_133 Z  r124 S124
      · refine sm_aload_n (pc := 134) dX8_tells_134 rfl 1 rfl ?_
        refine sm_getR (pc := 135) dX8_tells_135 fr_RX8_41 (by decide) rfl (fun v135 => ?_)
        refine sm_iload_n (pc := 138) dX8_tells_138 rfl 2 rfl ?_
        refine sm_aI (pc := 139) dX8_tells_139 (fun v139 => ?_)
        refine sm_iconst (pc := 140) (2 : Int32) dX8_tells_140 (by decide) ?_
        refine sm_icmp_ne 153 (pc := 141) dX8_tells_141 rfl ?_ ?_
        · refine sm_ldc2 (pc := 153) (-12 : Int64) dX8_tells_153 kc_RX8_338 ?_
          refine sm_sub [] rfl ?_
          exact sJ_X8_tells_156 Z  (-12 : Int64) S14
        refine sm_aload_n (pc := 144) dX8_tells_144 rfl 1 rfl ?_
        refine sm_getR (pc := 145) dX8_tells_145 fr_RX8_50 (by decide) rfl (fun v145 => ?_)
        refine sm_iload_n (pc := 148) dX8_tells_148 rfl 2 rfl ?_
        refine sm_aJ (pc := 149) dX8_tells_149 (fun v149 => ?_)
        refine sm_goto 156 (pc := 150) dX8_tells_150 rfl ?_
        refine sm_sub [] rfl ?_
        exact sJ_X8_tells_156 Z  v149 S14
      refine sm_aload_n (pc := 157) dX8_tells_157 rfl 1 rfl ?_
      refine sm_getR (pc := 158) dX8_tells_158 fr_RX8_41 (by decide) rfl (fun v158 => ?_)
      refine sm_iload_n (pc := 161) dX8_tells_161 rfl 2 rfl ?_
      refine sm_aI (pc := 162) dX8_tells_162 (fun v162 => ?_)
      refine sm_iconst (pc := 163) (1 : Int32) dX8_tells_163 (by decide) ?_
      refine sm_icmp_ne 188 (pc := 164) dX8_tells_164 rfl ?_ ?_
      · refine sm_sub [] rfl ?_
        exact sJ_X8_tells_188 Z  S14
      refine sm_aload_n (pc := 167) dX8_tells_167 rfl 1 rfl ?_
      refine sm_iload_n (pc := 168) dX8_tells_168 rfl 0 rfl ?_
      refine sm_iconst (pc := 169) (3 : Int32) dX8_tells_169 (by decide) ?_
      refine sm_callVL (pc := 170) [.int v42, .int (3 : Int32)] (fun lq rq Sq hq => m_X8_at Z lq c v42 (3 : Int32) S14 hq) dX8_tells_170 mi_X8_at ml_RX8_136 ⟨Nat.le_of_ble_eq_true rfl, Nat.le_of_ble_eq_true rfl, rfl, rfl⟩ rfl (by decide) rfl (Nat.le_of_ble_eq_true rfl) rfl (fun r170 S170 => ?_)
      refine sm_lconst (pc := 173) (0 : Int64) dX8_tells_173 (by decide) ?_
      refine sm_lcmp_ne 188 (pc := 174) dX8_tells_174 dX8_tells_175 rfl ?_ ?_
      · refine sm_sub [] rfl ?_
        exact sJ_X8_tells_188 Z  S170
      refine sm_aload_n (pc := 178) dX8_tells_178 rfl 1 rfl ?_
      refine sm_iload_n (pc := 179) dX8_tells_179 rfl 0 rfl ?_
      refine sm_bipush (pc := 180) (9 : Int32) dX8_tells_180 (by decide) ?_
      refine sm_callVL (pc := 182) [.int v42, .int (9 : Int32)] (fun lq rq Sq hq => m_X8_at Z lq c v42 (9 : Int32) S170 hq) dX8_tells_182 mi_X8_at ml_RX8_136 ⟨Nat.le_of_ble_eq_true rfl, Nat.le_of_ble_eq_true rfl, rfl, rfl⟩ rfl (by decide) rfl (Nat.le_of_ble_eq_true rfl) rfl (fun r182 S182 => ?_)
      refine sm_goto 191 (pc := 185) dX8_tells_185 rfl ?_
      refine sm_sub [] rfl ?_
      exact sJ_X8_tells_191 Z  r182 S182
    refine sm_ldc2 (pc := 33) (-11 : Int64) dX8_tells_33 kc_RX8_336 ?_
    exact sm_retL (pc := 36) dX8_tells_36
  refine sm_sub [] rfl ?_
  exact sJ_X8_tells_20 Z  S14
set_option maxRecDepth 20000 in
set_option maxHeartbeats 4000000 in
theorem m_X8_tells (Z : ZT) (l : Launch) (c : Nat) (a1 : Int32) (a2 : Int32) (S : St) {r : Int64} {S' : St} (h : F_X8_tells c a1 a2 S = some (r, S')) : MetX Z l yX8_tells cX8_tells 4 (some .long) rm_X8_tells [.ref c, .int a1, .int a2] S (eL r) S' := Sim.met (by decide +kernel) rfl (Nat.le_of_ble_eq_true rfl) (s_X8_tells Z c a1 a2 S) l h
set_option maxRecDepth 20000 in
set_option maxHeartbeats 4000000 in
theorem sB_X8_bills_4 (Z : ZT) (rec4 : (Nat → Int32 → Int32 → St → Option (Int32 × St))) (h4 : ∀ (x0 : Nat) (x1 : Int32) (x2 : Int32)  (S : St), Sim eI Z rm_X8_bills RX8 cX8_bills 3 (some .int) 4 [(0, .ref x0), (1, .int x1), (2, .int x2)] [] S (rec4 x0 x1 x2 S)) (x0 : Nat) (x1 : Int32) (x2 : Int32)  (S : St) : Sim eI Z rm_X8_bills RX8 cX8_bills 3 (some .int) 4 [(0, .ref x0), (1, .int x1), (2, .int x2)] [] S (B_X8_bills_4 rec4 x0 x1 x2 S) := by
  unfold B_X8_bills_4
  refine sm_iload_n (pc := 4) dX8_bills_4 rfl 2 rfl ?_
  refine sm_i2l (pc := 5) dX8_bills_5 ?_
  refine sm_aload_n (pc := 6) dX8_bills_6 rfl 0 rfl ?_
  refine sm_getR (pc := 7) dX8_bills_7 fr_RX8_9 (by decide) rfl (fun v7 => ?_)
  refine sm_sipush (pc := 10) (2520 : Int32) dX8_bills_10 (by decide) ?_
  refine sm_aJ (pc := 13) dX8_bills_13 (fun v13 => ?_)
  refine sm_lcmp_ge 36 (pc := 14) dX8_bills_14 dX8_bills_15 rfl ?_ ?_
  · refine sm_iload_n (pc := 36) dX8_bills_36 rfl 1 rfl ?_
    exact sm_retI (pc := 37) dX8_bills_37
  refine sm_iload_n (pc := 18) dX8_bills_18 rfl 1 rfl ?_
  refine sm_i2l (pc := 19) dX8_bills_19 ?_
  refine sm_aload_n (pc := 20) dX8_bills_20 rfl 0 rfl ?_
  refine sm_iload_n (pc := 21) dX8_bills_21 rfl 2 rfl ?_
  refine sm_bipush (pc := 22) (14 : Int32) dX8_bills_22 (by decide) ?_
  refine sm_callVL (pc := 24) [.int x2, .int (14 : Int32)] (fun lq rq Sq hq => m_X8_at Z lq x0 x2 (14 : Int32) S hq) dX8_bills_24 mi_X8_at ml_RX8_136 ⟨Nat.le_of_ble_eq_true rfl, Nat.le_of_ble_eq_true rfl, rfl, rfl⟩ rfl (by decide) rfl (Nat.le_of_ble_eq_true rfl) rfl (fun r24 S24 => ?_)
  refine sm_ladd (pc := 27) dX8_bills_27 ?_
  refine sm_l2i (pc := 28) dX8_bills_28 ?_
  refine sm_bdI (fun v29 => ?_)
  refine sm_istore_n (pc := 29) (lv' := [(1, .int v29), (0, .ref x0), (2, .int x2)]) dX8_bills_29 rfl (by decide) rfl ?_
  refine sm_iinc (pc := 30) (x2 + 1) (lv' := [(2, .int (x2 + 1)), (1, .int v29), (0, .ref x0)]) dX8_bills_30 2 rfl rfl (by decide) rfl ?_
  refine sm_goto 4 (pc := 33) dX8_bills_33 rfl ?_
  refine sm_sub [2, 1, 0] rfl ?_
  exact h4 x0 v29 (x2 + 1) S24
set_option maxRecDepth 20000 in
set_option maxHeartbeats 4000000 in
theorem sL_X8_bills_4 (Z : ZT)  (n : Nat) : ∀ (x0 : Nat) (x1 : Int32) (x2 : Int32)  (S : St), Sim eI Z rm_X8_bills RX8 cX8_bills 3 (some .int) 4 [(0, .ref x0), (1, .int x1), (2, .int x2)] [] S (L_X8_bills_4  n x0 x1 x2 S) := by
  induction n with
  | zero => intros; exact sm_none
  | succ n ih => intro x0 x1 x2 S; exact sB_X8_bills_4 Z  (L_X8_bills_4  n) ih x0 x1 x2 S
set_option maxRecDepth 20000 in
set_option maxHeartbeats 4000000 in
theorem s_X8_bills (Z : ZT) (c : Nat) (S : St) : Sim eI Z rm_X8_bills RX8 cX8_bills 3 (some .int) 0 [(0, .ref c)] [] S (F_X8_bills c S) := by
  unfold F_X8_bills
  refine sm_iconst (pc := 0) (0 : Int32) dX8_bills_0 (by decide) ?_
  refine sm_istore_n (pc := 1) (lv' := [(1, .int (0 : Int32)), (0, .ref c)]) dX8_bills_1 rfl (by decide) rfl ?_
  refine sm_iconst (pc := 2) (0 : Int32) dX8_bills_2 (by decide) ?_
  refine sm_istore_n (pc := 3) (lv' := [(2, .int (0 : Int32)), (1, .int (0 : Int32)), (0, .ref c)]) dX8_bills_3 rfl (by decide) rfl ?_
  refine sm_sub [2, 1, 0] rfl ?_
  exact sL_X8_bills_4 Z  6000 c (0 : Int32) (0 : Int32) S
set_option maxRecDepth 20000 in
set_option maxHeartbeats 4000000 in
theorem m_X8_bills (Z : ZT) (l : Launch) (c : Nat) (S : St) {r : Int32} {S' : St} (h : F_X8_bills c S = some (r, S')) : MetX Z l yX8_bills cX8_bills 3 (some .int) rm_X8_bills [.ref c] S (eI r) S' := Sim.met (by decide +kernel) rfl (Nat.le_of_ble_eq_true rfl) (s_X8_bills Z c S) l h
set_option maxRecDepth 20000 in
set_option maxHeartbeats 4000000 in
theorem sJ_X8_count_139 (Z : ZT) (rec95 : (Nat → Int32 → Int32 → St → Option (Int32 × St))) (h95 : ∀ (x0 : Nat) (x2 : Int32) (x3 : Int32)  (S : St), Sim eI Z rm_X8_count RX8 cX8_count 4 (some .int) 95 [(0, .ref x0), (2, .int x2), (3, .int x3)] [] S (rec95 x0 x2 x3 S)) (x0 : Nat) (x3 : Int32) (t0 : Int32) (t1 : Int32) (S : St) : Sim eI Z rm_X8_count RX8 cX8_count 4 (some .int) 139 [(0, .ref x0), (3, .int x3)] [.int t0, .int t1] S (J_X8_count_139 rec95 x0 x3 t0 t1 S) := by
  unfold J_X8_count_139
  refine sm_iadd (pc := 139) dX8_count_139 ?_
  refine sm_bdI (fun v140 => ?_)
  refine sm_istore_n (pc := 140) (lv' := [(2, .int v140), (0, .ref x0), (3, .int x3)]) dX8_count_140 rfl (by decide) rfl ?_
  refine sm_iinc (pc := 141) (x3 + 1) (lv' := [(3, .int (x3 + 1)), (2, .int v140), (0, .ref x0)]) dX8_count_141 2 rfl rfl (by decide) rfl ?_
  refine sm_goto 95 (pc := 144) dX8_count_144 rfl ?_
  refine sm_sub [2, 1, 0] rfl ?_
  exact h95 x0 v140 (x3 + 1) S
set_option maxRecDepth 20000 in
set_option maxHeartbeats 4000000 in
theorem sJ_X8_count_138 (Z : ZT) (rec95 : (Nat → Int32 → Int32 → St → Option (Int32 × St))) (h95 : ∀ (x0 : Nat) (x2 : Int32) (x3 : Int32)  (S : St), Sim eI Z rm_X8_count RX8 cX8_count 4 (some .int) 95 [(0, .ref x0), (2, .int x2), (3, .int x3)] [] S (rec95 x0 x2 x3 S)) (x0 : Nat) (x3 : Int32) (t0 : Int32) (S : St) : Sim eI Z rm_X8_count RX8 cX8_count 4 (some .int) 138 [(0, .ref x0), (3, .int x3)] [.int t0] S (J_X8_count_138 rec95 x0 x3 t0 S) := by
  unfold J_X8_count_138
  refine sm_iconst (pc := 138) (0 : Int32) dX8_count_138 (by decide) ?_
  refine sm_sub [0, 1] rfl ?_
  exact sJ_X8_count_139 Z rec95 h95 x0 x3 (0 : Int32) t0 S
set_option maxRecDepth 20000 in
set_option maxHeartbeats 4000000 in
theorem sB_X8_count_95 (Z : ZT) (rec95 : (Nat → Int32 → Int32 → St → Option (Int32 × St))) (h95 : ∀ (x0 : Nat) (x2 : Int32) (x3 : Int32)  (S : St), Sim eI Z rm_X8_count RX8 cX8_count 4 (some .int) 95 [(0, .ref x0), (2, .int x2), (3, .int x3)] [] S (rec95 x0 x2 x3 S)) (x0 : Nat) (x2 : Int32) (x3 : Int32)  (S : St) : Sim eI Z rm_X8_count RX8 cX8_count 4 (some .int) 95 [(0, .ref x0), (2, .int x2), (3, .int x3)] [] S (B_X8_count_95 rec95 x0 x2 x3 S) := by
  unfold B_X8_count_95
  refine sm_iload_n (pc := 95) dX8_count_95 rfl 2 rfl ?_
  refine sm_i2l (pc := 96) dX8_count_96 ?_
  refine sm_aload_n (pc := 97) dX8_count_97 rfl 0 rfl ?_
  refine sm_getR (pc := 98) dX8_count_98 fr_RX8_9 (by decide) rfl (fun v98 => ?_)
  refine sm_sipush (pc := 101) (2520 : Int32) dX8_count_101 (by decide) ?_
  refine sm_aJ (pc := 104) dX8_count_104 (fun v104 => ?_)
  refine sm_lcmp_ge 147 (pc := 105) dX8_count_105 dX8_count_106 rfl ?_ ?_
  · refine sm_iload_n (pc := 147) dX8_count_147 rfl 1 rfl ?_
    exact sm_retI (pc := 148) dX8_count_148
  refine sm_iload_n (pc := 109) dX8_count_109 rfl 1 rfl ?_
  refine sm_aload_n (pc := 110) dX8_count_110 rfl 0 rfl ?_
  refine sm_iload_n (pc := 111) dX8_count_111 rfl 2 rfl ?_
  refine sm_bipush (pc := 112) (8 : Int32) dX8_count_112 (by decide) ?_
  refine sm_callVL (pc := 114) [.int x3, .int (8 : Int32)] (fun lq rq Sq hq => m_X8_at Z lq x0 x3 (8 : Int32) S hq) dX8_count_114 mi_X8_at ml_RX8_136 ⟨Nat.le_of_ble_eq_true rfl, Nat.le_of_ble_eq_true rfl, rfl, rfl⟩ rfl (by decide) rfl (Nat.le_of_ble_eq_true rfl) rfl (fun r114 S114 => ?_)
  refine sm_lconst (pc := 117) (0 : Int64) dX8_count_117 (by decide) ?_
  refine sm_lcmp_ne 138 (pc := 118) dX8_count_118 dX8_count_119 rfl ?_ ?_
  · refine sm_sub [0, 2] rfl ?_
    exact sJ_X8_count_138 Z rec95 h95 x0 x3 x2 S114
  refine sm_aload_n (pc := 122) dX8_count_122 rfl 0 rfl ?_
  refine sm_iload_n (pc := 123) dX8_count_123 rfl 2 rfl ?_
  refine sm_bipush (pc := 124) (14 : Int32) dX8_count_124 (by decide) ?_
  refine sm_callVL (pc := 126) [.int x3, .int (14 : Int32)] (fun lq rq Sq hq => m_X8_at Z lq x0 x3 (14 : Int32) S114 hq) dX8_count_126 mi_X8_at ml_RX8_136 ⟨Nat.le_of_ble_eq_true rfl, Nat.le_of_ble_eq_true rfl, rfl, rfl⟩ rfl (by decide) rfl (Nat.le_of_ble_eq_true rfl) rfl (fun r126 S126 => ?_)
  refine sm_lconst (pc := 129) (0 : Int64) dX8_count_129 (by decide) ?_
  refine sm_lcmp_ne 138 (pc := 130) dX8_count_130 dX8_count_131 rfl ?_ ?_
  · refine sm_sub [0, 2] rfl ?_
    exact sJ_X8_count_138 Z rec95 h95 x0 x3 x2 S126
  refine sm_iconst (pc := 134) (1 : Int32) dX8_count_134 (by decide) ?_
  refine sm_goto 139 (pc := 135) dX8_count_135 rfl ?_
  refine sm_sub [0, 2] rfl ?_
  exact sJ_X8_count_139 Z rec95 h95 x0 x3 (1 : Int32) x2 S126
set_option maxRecDepth 20000 in
set_option maxHeartbeats 4000000 in
theorem sL_X8_count_95 (Z : ZT)  (n : Nat) : ∀ (x0 : Nat) (x2 : Int32) (x3 : Int32)  (S : St), Sim eI Z rm_X8_count RX8 cX8_count 4 (some .int) 95 [(0, .ref x0), (2, .int x2), (3, .int x3)] [] S (L_X8_count_95  n x0 x2 x3 S) := by
  induction n with
  | zero => intros; exact sm_none
  | succ n ih => intro x0 x2 x3 S; exact sB_X8_count_95 Z  (L_X8_count_95  n) ih x0 x2 x3 S
set_option maxRecDepth 20000 in
set_option maxHeartbeats 4000000 in
theorem sJ_X8_count_177 (Z : ZT) (rec156 : (Nat → Int32 → Int32 → St → Option (Int32 × St))) (h156 : ∀ (x0 : Nat) (x2 : Int32) (x3 : Int32)  (S : St), Sim eI Z rm_X8_count RX8 cX8_count 4 (some .int) 156 [(0, .ref x0), (2, .int x2), (3, .int x3)] [] S (rec156 x0 x2 x3 S)) (x0 : Nat) (x3 : Int32) (t0 : Int32) (t1 : Int32) (S : St) : Sim eI Z rm_X8_count RX8 cX8_count 4 (some .int) 177 [(0, .ref x0), (3, .int x3)] [.int t0, .int t1] S (J_X8_count_177 rec156 x0 x3 t0 t1 S) := by
  unfold J_X8_count_177
  refine sm_iadd (pc := 177) dX8_count_177 ?_
  refine sm_bdI (fun v178 => ?_)
  refine sm_istore_n (pc := 178) (lv' := [(2, .int v178), (0, .ref x0), (3, .int x3)]) dX8_count_178 rfl (by decide) rfl ?_
  refine sm_iinc (pc := 179) (x3 + 1) (lv' := [(3, .int (x3 + 1)), (2, .int v178), (0, .ref x0)]) dX8_count_179 2 rfl rfl (by decide) rfl ?_
  refine sm_goto 156 (pc := 182) dX8_count_182 rfl ?_
  refine sm_sub [2, 1, 0] rfl ?_
  exact h156 x0 v178 (x3 + 1) S
set_option maxRecDepth 20000 in
set_option maxHeartbeats 4000000 in
theorem sB_X8_count_156 (Z : ZT) (rec156 : (Nat → Int32 → Int32 → St → Option (Int32 × St))) (h156 : ∀ (x0 : Nat) (x2 : Int32) (x3 : Int32)  (S : St), Sim eI Z rm_X8_count RX8 cX8_count 4 (some .int) 156 [(0, .ref x0), (2, .int x2), (3, .int x3)] [] S (rec156 x0 x2 x3 S)) (x0 : Nat) (x2 : Int32) (x3 : Int32)  (S : St) : Sim eI Z rm_X8_count RX8 cX8_count 4 (some .int) 156 [(0, .ref x0), (2, .int x2), (3, .int x3)] [] S (B_X8_count_156 rec156 x0 x2 x3 S) := by
  unfold B_X8_count_156
  refine sm_iload_n (pc := 156) dX8_count_156 rfl 2 rfl ?_
  refine sm_bipush (pc := 157) (6 : Int32) dX8_count_157 (by decide) ?_
  refine sm_icmp_ge 185 (pc := 159) dX8_count_159 rfl ?_ ?_
  · refine sm_iload_n (pc := 185) dX8_count_185 rfl 1 rfl ?_
    exact sm_retI (pc := 186) dX8_count_186
  refine sm_iload_n (pc := 162) dX8_count_162 rfl 1 rfl ?_
  refine sm_aload_n (pc := 163) dX8_count_163 rfl 0 rfl ?_
  refine sm_getR (pc := 164) dX8_count_164 fr_RX8_41 (by decide) rfl (fun v164 => ?_)
  refine sm_iload_n (pc := 167) dX8_count_167 rfl 2 rfl ?_
  refine sm_aI (pc := 168) dX8_count_168 (fun v168 => ?_)
  refine sm_if_eq 176 (pc := 169) dX8_count_169 rfl ?_ ?_
  · refine sm_iconst (pc := 176) (0 : Int32) dX8_count_176 (by decide) ?_
    refine sm_sub [0, 2] rfl ?_
    exact sJ_X8_count_177 Z rec156 h156 x0 x3 (0 : Int32) x2 S
  refine sm_iconst (pc := 172) (1 : Int32) dX8_count_172 (by decide) ?_
  refine sm_goto 177 (pc := 173) dX8_count_173 rfl ?_
  refine sm_sub [0, 2] rfl ?_
  exact sJ_X8_count_177 Z rec156 h156 x0 x3 (1 : Int32) x2 S
set_option maxRecDepth 20000 in
set_option maxHeartbeats 4000000 in
theorem sL_X8_count_156 (Z : ZT)  (n : Nat) : ∀ (x0 : Nat) (x2 : Int32) (x3 : Int32)  (S : St), Sim eI Z rm_X8_count RX8 cX8_count 4 (some .int) 156 [(0, .ref x0), (2, .int x2), (3, .int x3)] [] S (L_X8_count_156  n x0 x2 x3 S) := by
  induction n with
  | zero => intros; exact sm_none
  | succ n ih => intro x0 x2 x3 S; exact sB_X8_count_156 Z  (L_X8_count_156  n) ih x0 x2 x3 S
set_option maxRecDepth 20000 in
set_option maxHeartbeats 4000000 in
theorem s_X8_count (Z : ZT) (c : Nat) (a1 : Int32) (S : St) : Sim eI Z rm_X8_count RX8 cX8_count 4 (some .int) 0 [(0, .ref c), (1, .int a1)] [] S (F_X8_count c a1 S) := by
  unfold F_X8_count
  refine sm_iconst (pc := 0) (0 : Int32) dX8_count_0 (by decide) ?_
  refine sm_istore_n (pc := 1) (lv' := [(2, .int (0 : Int32)), (0, .ref c), (1, .int a1)]) dX8_count_1 rfl (by decide) rfl ?_
  refine sm_iload_n (pc := 2) dX8_count_2 rfl 2 rfl ?_
  refine sm_tswk (pc := 3) 187 [48, 58, 63, 73, 83, 93, 149, 154] [0, 1, 2, 3, 4, 5, 6, 7] dX8_count_3 rfl (by decide) (by decide) (by decide) rfl ⟨?_, ?_, ?_, ?_, ?_, ?_, ?_, ?_, trivial⟩ ?_
  · refine sm_aload_n (pc := 48) dX8_count_48 rfl 1 rfl ?_
    refine sm_getR (pc := 49) dX8_count_49 fr_RX8_9 (by decide) rfl (fun v49 => ?_)
    refine sm_sipush (pc := 52) (2520 : Int32) dX8_count_52 (by decide) ?_
    refine sm_aJ (pc := 55) dX8_count_55 (fun v55 => ?_)
    refine sm_l2i (pc := 56) dX8_count_56 ?_
    exact sm_retI (pc := 57) dX8_count_57
  · refine sm_aload_n (pc := 58) dX8_count_58 rfl 1 rfl ?_
    refine sm_callVI (pc := 59) [] (fun lq rq Sq hq => m_X8_bills Z lq c S hq) dX8_count_59 mi_X8_bills ml_RX8_340 ⟨Nat.le_of_ble_eq_true rfl, Nat.le_of_ble_eq_true rfl, rfl, rfl⟩ rfl (by decide) rfl (Nat.le_of_ble_eq_true rfl) rfl (fun r59 S59 => ?_)
    exact sm_retI (pc := 62) dX8_count_62
  · refine sm_aload_n (pc := 63) dX8_count_63 rfl 1 rfl ?_
    refine sm_getR (pc := 64) dX8_count_64 fr_RX8_9 (by decide) rfl (fun v64 => ?_)
    refine sm_sipush (pc := 67) (2521 : Int32) dX8_count_67 (by decide) ?_
    refine sm_aJ (pc := 70) dX8_count_70 (fun v70 => ?_)
    refine sm_l2i (pc := 71) dX8_count_71 ?_
    exact sm_retI (pc := 72) dX8_count_72
  · refine sm_aload_n (pc := 73) dX8_count_73 rfl 1 rfl ?_
    refine sm_getR (pc := 74) dX8_count_74 fr_RX8_9 (by decide) rfl (fun v74 => ?_)
    refine sm_sipush (pc := 77) (2522 : Int32) dX8_count_77 (by decide) ?_
    refine sm_aJ (pc := 80) dX8_count_80 (fun v80 => ?_)
    refine sm_l2i (pc := 81) dX8_count_81 ?_
    exact sm_retI (pc := 82) dX8_count_82
  · refine sm_aload_n (pc := 83) dX8_count_83 rfl 1 rfl ?_
    refine sm_getR (pc := 84) dX8_count_84 fr_RX8_9 (by decide) rfl (fun v84 => ?_)
    refine sm_sipush (pc := 87) (2523 : Int32) dX8_count_87 (by decide) ?_
    refine sm_aJ (pc := 90) dX8_count_90 (fun v90 => ?_)
    refine sm_l2i (pc := 91) dX8_count_91 ?_
    exact sm_retI (pc := 92) dX8_count_92
  · refine sm_iconst (pc := 93) (0 : Int32) dX8_count_93 (by decide) ?_
    refine sm_istore_n (pc := 94) (lv' := [(3, .int (0 : Int32)), (2, .int (0 : Int32)), (0, .ref c), (1, .int a1)]) dX8_count_94 rfl (by decide) rfl ?_
    refine sm_sub [2, 1, 0] rfl ?_
    exact sL_X8_count_95 Z  6000 c (0 : Int32) (0 : Int32) S
  · refine sm_aload_n (pc := 149) dX8_count_149 rfl 1 rfl ?_
    refine sm_getI (pc := 150) dX8_count_150 fr_RX8_279 (by decide) rfl (fun v150 => ?_)
    exact sm_retI (pc := 153) dX8_count_153
  · refine sm_iconst (pc := 154) (0 : Int32) dX8_count_154 (by decide) ?_
    refine sm_istore_n (pc := 155) (lv' := [(3, .int (0 : Int32)), (2, .int (0 : Int32)), (0, .ref c), (1, .int a1)]) dX8_count_155 rfl (by decide) rfl ?_
    refine sm_sub [2, 1, 0] rfl ?_
    exact sL_X8_count_156 Z  6000 c (0 : Int32) (0 : Int32) S
  refine sm_iconst (pc := 187) (-1 : Int32) dX8_count_187 (by decide) ?_
  exact sm_retI (pc := 188) dX8_count_188
set_option maxRecDepth 20000 in
set_option maxHeartbeats 4000000 in
theorem m_X8_count (Z : ZT) (l : Launch) (c : Nat) (a1 : Int32) (S : St) {r : Int32} {S' : St} (h : F_X8_count c a1 S = some (r, S')) : MetX Z l yX8_count cX8_count 4 (some .int) rm_X8_count [.ref c, .int a1] S (eI r) S' := Sim.met (by decide +kernel) rfl (Nat.le_of_ble_eq_true rfl) (s_X8_count Z c a1 S) l h
