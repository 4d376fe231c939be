set_option maxRecDepth 20000 in
set_option maxHeartbeats 4000000 in
theorem s_X5_flow (Z : ZT) (c : Nat) (a1 : Int32) (S : St) : Sim eL Z rm_X5_flow RX5 cX5_flow 2 (some .long) 0 [(0, .ref c), (1, .int a1)] [] S (F_X5_flow c a1 S) := by
  unfold F_X5_flow
  refine sm_aload_n (pc := 0) dX5_flow_0 rfl 0 rfl ?_
  refine sm_getR (pc := 1) dX5_flow_1 fr_RX5_18 (by decide) rfl (fun v1 => ?_)
  refine sm_iload_n (pc := 4) dX5_flow_4 rfl 1 rfl ?_
  refine sm_aJ (pc := 5) dX5_flow_5 (fun v5 => ?_)
  refine sm_aload_n (pc := 6) dX5_flow_6 rfl 0 rfl ?_
  refine sm_getR (pc := 7) dX5_flow_7 fr_RX5_22 (by decide) rfl (fun v7 => ?_)
  refine sm_iload_n (pc := 10) dX5_flow_10 rfl 1 rfl ?_
  refine sm_aJ (pc := 11) dX5_flow_11 (fun v11 => ?_)
  refine sm_ladd (pc := 12) dX5_flow_12 ?_
  exact sm_retL (pc := 13) dX5_flow_13
set_option maxRecDepth 20000 in
set_option maxHeartbeats 4000000 in
theorem m_X5_flow (Z : ZT) (l : Launch) (c : Nat) (a1 : Int32) (S : St) {r : Int64} {S' : St} (h : F_X5_flow c a1 S = some (r, S')) : MetX Z l yX5_flow cX5_flow 2 (some .long) rm_X5_flow [.ref c, .int a1] S (eL r) S' := Sim.met (by decide +kernel) rfl (Nat.le_of_ble_eq_true rfl) (s_X5_flow Z c a1 S) l h
set_option maxRecDepth 20000 in
set_option maxHeartbeats 4000000 in
theorem sJ_X5_bills_30 (Z : ZT) (rec9 : (Nat → Int32 → Int32 → St → Option (Int32 × St))) (h9 : ∀ (x0 : Nat) (x1 : Int32) (x2 : Int32)  (S : St), Sim eI Z rm_X5_bills RX5 cX5_bills 3 (some .int) 9 [(0, .ref x0), (1, .int x1), (2, .int x2)] [] S (rec9 x0 x1 x2 S)) (x0 : Nat) (x1 : Int32) (x2 : Int32)  (S : St) : Sim eI Z rm_X5_bills RX5 cX5_bills 3 (some .int) 30 [(0, .ref x0), (1, .int x1), (2, .int x2)] [] S (J_X5_bills_30 rec9 x0 x1 x2 S) := by
  unfold J_X5_bills_30
  refine sm_iinc (pc := 30) (x2 + 1) (lv' := [(2, .int (x2 + 1)), (0, .ref x0), (1, .int x1)]) dX5_bills_30 2 rfl rfl (by decide) rfl ?_
  refine sm_goto 9 (pc := 33) dX5_bills_33 rfl ?_
  refine sm_sub [1, 2, 0] rfl ?_
  exact h9 x0 x1 (x2 + 1) S
set_option maxRecDepth 20000 in
set_option maxHeartbeats 4000000 in
theorem sB_X5_bills_9 (Z : ZT) (rec9 : (Nat → Int32 → Int32 → St → Option (Int32 × St))) (h9 : ∀ (x0 : Nat) (x1 : Int32) (x2 : Int32)  (S : St), Sim eI Z rm_X5_bills RX5 cX5_bills 3 (some .int) 9 [(0, .ref x0), (1, .int x1), (2, .int x2)] [] S (rec9 x0 x1 x2 S)) (x0 : Nat) (x1 : Int32) (x2 : Int32)  (S : St) : Sim eI Z rm_X5_bills RX5 cX5_bills 3 (some .int) 9 [(0, .ref x0), (1, .int x1), (2, .int x2)] [] S (B_X5_bills_9 rec9 x0 x1 x2 S) := by
  unfold B_X5_bills_9
  refine sm_iload_n (pc := 9) dX5_bills_9 rfl 2 rfl ?_
  refine sm_aload_n (pc := 10) dX5_bills_10 rfl 0 rfl ?_
  refine sm_getI (pc := 11) dX5_bills_11 fr_RX5_15 (by decide) rfl (fun v11 => ?_)
  refine sm_icmp_gt 36 (pc := 14) dX5_bills_14 rfl ?_ ?_
  · refine sm_iload_n (pc := 36) dX5_bills_36 rfl 1 rfl ?_
    exact sm_retI (pc := 37) dX5_bills_37
  refine sm_aload_n (pc := 17) dX5_bills_17 rfl 0 rfl ?_
  refine sm_iload_n (pc := 18) dX5_bills_18 rfl 2 rfl ?_
  refine sm_callVL (pc := 19) [.int x2] (fun lq rq Sq hq => m_X5_flow Z lq x0 x2 S hq) dX5_bills_19 mi_X5_flow ml_RX5_43 ⟨Nat.le_of_ble_eq_true rfl, Nat.le_of_ble_eq_true rfl, rfl, rfl⟩ rfl (by decide) rfl (Nat.le_of_ble_eq_true rfl) rfl (fun r19 S19 => ?_)
  refine sm_lconst (pc := 22) (0 : Int64) dX5_bills_22 (by decide) ?_
  refine sm_lcmp_le 30 (pc := 23) dX5_bills_23 dX5_bills_24 rfl ?_ ?_
  · refine sm_sub [0, 1, 2] rfl ?_
    exact sJ_X5_bills_30 Z rec9 h9 x0 x1 x2 S19
  refine sm_iinc (pc := 27) (x1 + 1) (lv' := [(1, .int (x1 + 1)), (0, .ref x0), (2, .int x2)]) dX5_bills_27 1 rfl rfl (by decide) rfl ?_
  refine sm_sub [1, 0, 2] rfl ?_
  exact sJ_X5_bills_30 Z rec9 h9 x0 (x1 + 1) x2 S19
set_option maxRecDepth 20000 in
set_option maxHeartbeats 4000000 in
theorem sL_X5_bills_9 (Z : ZT)  (n : Nat) : ∀ (x0 : Nat) (x1 : Int32) (x2 : Int32)  (S : St), Sim eI Z rm_X5_bills RX5 cX5_bills 3 (some .int) 9 [(0, .ref x0), (1, .int x1), (2, .int x2)] [] S (L_X5_bills_9  n x0 x1 x2 S) := by
  induction n with
  | zero => intros; exact sm_none
  | succ n ih => intro x0 x1 x2 S; exact sB_X5_bills_9 Z  (L_X5_bills_9  n) ih x0 x1 x2 S
set_option maxRecDepth 20000 in
set_option maxHeartbeats 4000000 in
theorem s_X5_bills (Z : ZT) (c : Nat) (S : St) : Sim eI Z rm_X5_bills RX5 cX5_bills 3 (some .int) 0 [(0, .ref c)] [] S (F_X5_bills c S) := by
  unfold F_X5_bills
  refine sm_iconst (pc := 0) (0 : Int32) dX5_bills_0 (by decide) ?_
  refine sm_istore_n (pc := 1) (lv' := [(1, .int (0 : Int32)), (0, .ref c)]) dX5_bills_1 rfl (by decide) rfl ?_
  refine sm_aload_n (pc := 2) dX5_bills_2 rfl 1 rfl ?_
  refine sm_getI (pc := 3) dX5_bills_3 fr_RX5_9 (by decide) rfl (fun v3 => ?_)
  refine sm_iconst (pc := 6) (1 : Int32) dX5_bills_6 (by decide) ?_
  refine sm_iadd (pc := 7) dX5_bills_7 ?_
  refine sm_bdI (fun v8 => ?_)
  refine sm_istore_n (pc := 8) (lv' := [(2, .int v8), (1, .int (0 : Int32)), (0, .ref c)]) dX5_bills_8 rfl (by decide) rfl ?_
  refine sm_sub [2, 1, 0] rfl ?_
  exact sL_X5_bills_9 Z  6000 c (0 : Int32) v8 S
set_option maxRecDepth 20000 in
set_option maxHeartbeats 4000000 in
theorem m_X5_bills (Z : ZT) (l : Launch) (c : Nat) (S : St) {r : Int32} {S' : St} (h : F_X5_bills c S = some (r, S')) : MetX Z l yX5_bills cX5_bills 3 (some .int) rm_X5_bills [.ref c] S (eI r) S' := Sim.met (by decide +kernel) rfl (Nat.le_of_ble_eq_true rfl) (s_X5_bills Z c S) l h
set_option maxRecDepth 20000 in
set_option maxHeartbeats 4000000 in
theorem sJ_X5_periodOfBill_37 (Z : ZT) (rec9 : (Nat → Int32 → Int32 → Int32 → St → Option (Int32 × St))) (h9 : ∀ (x0 : Nat) (x1 : Int32) (x2 : Int32) (x3 : Int32)  (S : St), Sim eI Z rm_X5_periodOfBill RX5 cX5_periodOfBill 4 (some .int) 9 [(0, .ref x0), (1, .int x1), (2, .int x2), (3, .int x3)] [] S (rec9 x0 x1 x2 x3 S)) (x0 : Nat) (x1 : Int32) (x2 : Int32) (x3 : Int32)  (S : St) : Sim eI Z rm_X5_periodOfBill RX5 cX5_periodOfBill 4 (some .int) 37 [(0, .ref x0), (1, .int x1), (2, .int x2), (3, .int x3)] [] S (J_X5_periodOfBill_37 rec9 x0 x1 x2 x3 S) := by
  unfold J_X5_periodOfBill_37
  refine sm_iinc (pc := 37) (x3 + 1) (lv' := [(3, .int (x3 + 1)), (0, .ref x0), (1, .int x1), (2, .int x2)]) dX5_periodOfBill_37 3 rfl rfl (by decide) rfl ?_
  refine sm_goto 9 (pc := 40) dX5_periodOfBill_40 rfl ?_
  refine sm_sub [1, 2, 3, 0] rfl ?_
  exact h9 x0 x1 x2 (x3 + 1) S
set_option maxRecDepth 20000 in
set_option maxHeartbeats 4000000 in
theorem sB_X5_periodOfBill_9 (Z : ZT) (rec9 : (Nat → Int32 → Int32 → Int32 → St → Option (Int32 × St))) (h9 : ∀ (x0 : Nat) (x1 : Int32) (x2 : Int32) (x3 : Int32)  (S : St), Sim eI Z rm_X5_periodOfBill RX5 cX5_periodOfBill 4 (some .int) 9 [(0, .ref x0), (1, .int x1), (2, .int x2), (3, .int x3)] [] S (rec9 x0 x1 x2 x3 S)) (x0 : Nat) (x1 : Int32) (x2 : Int32) (x3 : Int32)  (S : St) : Sim eI Z rm_X5_periodOfBill RX5 cX5_periodOfBill 4 (some .int) 9 [(0, .ref x0), (1, .int x1), (2, .int x2), (3, .int x3)] [] S (B_X5_periodOfBill_9 rec9 x0 x1 x2 x3 S) := by
  unfold B_X5_periodOfBill_9
  refine sm_iload_n (pc := 9) dX5_periodOfBill_9 rfl 3 rfl ?_
  refine sm_aload_n (pc := 10) dX5_periodOfBill_10 rfl 0 rfl ?_
  refine sm_getI (pc := 11) dX5_periodOfBill_11 fr_RX5_15 (by decide) rfl (fun v11 => ?_)
  refine sm_icmp_gt 43 (pc := 14) dX5_periodOfBill_14 rfl ?_ ?_
  · refine sm_iconst (pc := 43) (0 : Int32) dX5_periodOfBill_43 (by decide) ?_
    exact sm_retI (pc := 44) dX5_periodOfBill_44
  refine sm_aload_n (pc := 17) dX5_periodOfBill_17 rfl 0 rfl ?_
  refine sm_iload_n (pc := 18) dX5_periodOfBill_18 rfl 3 rfl ?_
  refine sm_callVL (pc := 19) [.int x3] (fun lq rq Sq hq => m_X5_flow Z lq x0 x3 S hq) dX5_periodOfBill_19 mi_X5_flow ml_RX5_43 ⟨Nat.le_of_ble_eq_true rfl, Nat.le_of_ble_eq_true rfl, rfl, rfl⟩ rfl (by decide) rfl (Nat.le_of_ble_eq_true rfl) rfl (fun r19 S19 => ?_)
  refine sm_lconst (pc := 22) (0 : Int64) dX5_periodOfBill_22 (by decide) ?_
  refine sm_lcmp_le 37 (pc := 23) dX5_periodOfBill_23 dX5_periodOfBill_24 rfl ?_ ?_
  · refine sm_sub [0, 1, 2, 3] rfl ?_
    exact sJ_X5_periodOfBill_37 Z rec9 h9 x0 x1 x2 x3 S19
  refine sm_iload_n (pc := 27) dX5_periodOfBill_27 rfl 2 rfl ?_
  refine sm_iload_n (pc := 28) dX5_periodOfBill_28 rfl 1 rfl ?_
  refine sm_icmp_ne 34 (pc := 29) dX5_periodOfBill_29 rfl ?_ ?_
  · refine sm_iinc (pc := 34) (x2 + 1) (lv' := [(2, .int (x2 + 1)), (0, .ref x0), (1, .int x1), (3, .int x3)]) dX5_periodOfBill_34 2 rfl rfl (by decide) rfl ?_
    refine sm_sub [1, 2, 0, 3] rfl ?_
    exact sJ_X5_periodOfBill_37 Z rec9 h9 x0 x1 (x2 + 1) x3 S19
  refine sm_iload_n (pc := 32) dX5_periodOfBill_32 rfl 3 rfl ?_
  exact sm_retI (pc := 33) dX5_periodOfBill_33
set_option maxRecDepth 20000 in
set_option maxHeartbeats 4000000 in
theorem sL_X5_periodOfBill_9 (Z : ZT)  (n : Nat) : ∀ (x0 : Nat) (x1 : Int32) (x2 : Int32) (x3 : Int32)  (S : St), Sim eI Z rm_X5_periodOfBill RX5 cX5_periodOfBill 4 (some .int) 9 [(0, .ref x0), (1, .int x1), (2, .int x2), (3, .int x3)] [] S (L_X5_periodOfBill_9  n x0 x1 x2 x3 S) := by
  induction n with
  | zero => intros; exact sm_none
  | succ n ih => intro x0 x1 x2 x3 S; exact sB_X5_periodOfBill_9 Z  (L_X5_periodOfBill_9  n) ih x0 x1 x2 x3 S
set_option maxRecDepth 20000 in
set_option maxHeartbeats 4000000 in
theorem s_X5_periodOfBill (Z : ZT) (c : Nat) (a1 : Int32) (S : St) : Sim eI Z rm_X5_periodOfBill RX5 cX5_periodOfBill 4 (some .int) 0 [(0, .ref c), (1, .int a1)] [] S (F_X5_periodOfBill c a1 S) := by
  unfold F_X5_periodOfBill
  refine sm_iconst (pc := 0) (0 : Int32) dX5_periodOfBill_0 (by decide) ?_
  refine sm_istore_n (pc := 1) (lv' := [(2, .int (0 : Int32)), (0, .ref c), (1, .int a1)]) dX5_periodOfBill_1 rfl (by decide) rfl ?_
  refine sm_aload_n (pc := 2) dX5_periodOfBill_2 rfl 1 rfl ?_
  refine sm_getI (pc := 3) dX5_periodOfBill_3 fr_RX5_9 (by decide) rfl (fun v3 => ?_)
  refine sm_iconst (pc := 6) (1 : Int32) dX5_periodOfBill_6 (by decide) ?_
  refine sm_iadd (pc := 7) dX5_periodOfBill_7 ?_
  refine sm_bdI (fun v8 => ?_)
  refine sm_istore_n (pc := 8) (lv' := [(3, .int v8), (2, .int (0 : Int32)), (0, .ref c), (1, .int a1)]) dX5_periodOfBill_8 rfl (by decide) rfl ?_
  refine sm_sub [2, 3, 1, 0] rfl ?_
  exact sL_X5_periodOfBill_9 Z  6000 c a1 (0 : Int32) v8 S
set_option maxRecDepth 20000 in
set_option maxHeartbeats 4000000 in
theorem m_X5_periodOfBill (Z : ZT) (l : Launch) (c : Nat) (a1 : Int32) (S : St) {r : Int32} {S' : St} (h : F_X5_periodOfBill c a1 S = some (r, S')) : MetX Z l yX5_periodOfBill cX5_periodOfBill 4 (some .int) rm_X5_periodOfBill [.ref c, .int a1] S (eI r) S' := Sim.met (by decide +kernel) rfl (Nat.le_of_ble_eq_true rfl) (s_X5_periodOfBill Z c a1 S) l h
set_option maxRecDepth 20000 in
set_option maxHeartbeats 4000000 in
theorem sB_X5_totalInterest_9 (Z : ZT) (rec9 : (Nat → Int64 → Int32 → St → Option (Int64 × St))) (h9 : ∀ (x0 : Nat) (x1 : Int64) (x3 : Int32)  (S : St), Sim eL Z rm_X5_totalInterest RX5 cX5_totalInterest 4 (some .long) 9 [(0, .ref x0), (1, .long x1), (3, .int x3)] [] S (rec9 x0 x1 x3 S)) (x0 : Nat) (x1 : Int64) (x3 : Int32)  (S : St) : Sim eL Z rm_X5_totalInterest RX5 cX5_totalInterest 4 (some .long) 9 [(0, .ref x0), (1, .long x1), (3, .int x3)] [] S (B_X5_totalInterest_9 rec9 x0 x1 x3 S) := by
  unfold B_X5_totalInterest_9
  refine sm_iload_n (pc := 9) dX5_totalInterest_9 rfl 2 rfl ?_
  refine sm_aload_n (pc := 10) dX5_totalInterest_10 rfl 0 rfl ?_
  refine sm_getI (pc := 11) dX5_totalInterest_11 fr_RX5_15 (by decide) rfl (fun v11 => ?_)
  refine sm_icmp_gt 32 (pc := 14) dX5_totalInterest_14 rfl ?_ ?_
  · refine sm_lload_n (pc := 32) dX5_totalInterest_32 rfl 1 rfl ?_
    exact sm_retL (pc := 33) dX5_totalInterest_33
  refine sm_lload_n (pc := 17) dX5_totalInterest_17 rfl 1 rfl ?_
  refine sm_aload_n (pc := 18) dX5_totalInterest_18 rfl 0 rfl ?_
  refine sm_getR (pc := 19) dX5_totalInterest_19 fr_RX5_18 (by decide) rfl (fun v19 => ?_)
  refine sm_iload_n (pc := 22) dX5_totalInterest_22 rfl 2 rfl ?_
  refine sm_aJ (pc := 23) dX5_totalInterest_23 (fun v23 => ?_)
  refine sm_ladd (pc := 24) dX5_totalInterest_24 ?_
  refine sm_bdJ (fun v25 => ?_)
  refine sm_lstore_n (pc := 25) (lv' := [(1, .long v25), (0, .ref x0), (3, .int x3)]) dX5_totalInterest_25 rfl (by decide) rfl ?_
  refine sm_iinc (pc := 26) (x3 + 1) (lv' := [(3, .int (x3 + 1)), (1, .long v25), (0, .ref x0)]) dX5_totalInterest_26 2 rfl rfl (by decide) rfl ?_
  refine sm_goto 9 (pc := 29) dX5_totalInterest_29 rfl ?_
  refine sm_sub [2, 1, 0] rfl ?_
  exact h9 x0 v25 (x3 + 1) S
set_option maxRecDepth 20000 in
set_option maxHeartbeats 4000000 in
theorem sL_X5_totalInterest_9 (Z : ZT)  (n : Nat) : ∀ (x0 : Nat) (x1 : Int64) (x3 : Int32)  (S : St), Sim eL Z rm_X5_totalInterest RX5 cX5_totalInterest 4 (some .long) 9 [(0, .ref x0), (1, .long x1), (3, .int x3)] [] S (L_X5_totalInterest_9  n x0 x1 x3 S) := by
  induction n with
  | zero => intros; exact sm_none
  | succ n ih => intro x0 x1 x3 S; exact sB_X5_totalInterest_9 Z  (L_X5_totalInterest_9  n) ih x0 x1 x3 S
set_option maxRecDepth 20000 in
set_option maxHeartbeats 4000000 in
theorem s_X5_totalInterest (Z : ZT) (c : Nat) (S : St) : Sim eL Z rm_X5_totalInterest RX5 cX5_totalInterest 4 (some .long) 0 [(0, .ref c)] [] S (F_X5_totalInterest c S) := by
  unfold F_X5_totalInterest
  refine sm_lconst (pc := 0) (0 : Int64) dX5_totalInterest_0 (by decide) ?_
  refine sm_lstore_n (pc := 1) (lv' := [(1, .long (0 : Int64)), (0, .ref c)]) dX5_totalInterest_1 rfl (by decide) rfl ?_
  refine sm_aload_n (pc := 2) dX5_totalInterest_2 rfl 1 rfl ?_
  refine sm_getI (pc := 3) dX5_totalInterest_3 fr_RX5_9 (by decide) rfl (fun v3 => ?_)
  refine sm_iconst (pc := 6) (1 : Int32) dX5_totalInterest_6 (by decide) ?_
  refine sm_iadd (pc := 7) dX5_totalInterest_7 ?_
  refine sm_bdI (fun v8 => ?_)
  refine sm_istore_n (pc := 8) (lv' := [(3, .int v8), (1, .long (0 : Int64)), (0, .ref c)]) dX5_totalInterest_8 rfl (by decide) rfl ?_
  refine sm_sub [2, 1, 0] rfl ?_
  exact sL_X5_totalInterest_9 Z  6000 c (0 : Int64) v8 S
set_option maxRecDepth 20000 in
set_option maxHeartbeats 4000000 in
theorem m_X5_totalInterest (Z : ZT) (l : Launch) (c : Nat) (S : St) {r : Int64} {S' : St} (h : F_X5_totalInterest c S = some (r, S')) : MetX Z l yX5_totalInterest cX5_totalInterest 4 (some .long) rm_X5_totalInterest [.ref c] S (eL r) S' := Sim.met (by decide +kernel) rfl (Nat.le_of_ble_eq_true rfl) (s_X5_totalInterest Z c S) l h
set_option maxRecDepth 20000 in
set_option maxHeartbeats 4000000 in
theorem sB_X5_greatestFlow_9 (Z : ZT) (rec9 : (Nat → Int64 → Int32 → St → Option (Int64 × St))) (h9 : ∀ (x0 : Nat) (x1 : Int64) (x3 : Int32)  (S : St), Sim eL Z rm_X5_greatestFlow RX5 cX5_greatestFlow 4 (some .long) 9 [(0, .ref x0), (1, .long x1), (3, .int x3)] [] S (rec9 x0 x1 x3 S)) (x0 : Nat) (x1 : Int64) (x3 : Int32)  (S : St) : Sim eL Z rm_X5_greatestFlow RX5 cX5_greatestFlow 4 (some .long) 9 [(0, .ref x0), (1, .long x1), (3, .int x3)] [] S (B_X5_greatestFlow_9 rec9 x0 x1 x3 S) := by
  unfold B_X5_greatestFlow_9
  refine sm_iload_n (pc := 9) dX5_greatestFlow_9 rfl 2 rfl ?_
  refine sm_aload_n (pc := 10) dX5_greatestFlow_10 rfl 0 rfl ?_
  refine sm_getI (pc := 11) dX5_greatestFlow_11 fr_RX5_15 (by decide) rfl (fun v11 => ?_)
  refine sm_icmp_gt 33 (pc := 14) dX5_greatestFlow_14 rfl ?_ ?_
  · refine sm_lload_n (pc := 33) dX5_greatestFlow_33 rfl 1 rfl ?_
    exact sm_retL (pc := 34) dX5_greatestFlow_34
  refine sm_lload_n (pc := 17) dX5_greatestFlow_17 rfl 1 rfl ?_
  refine sm_aload_n (pc := 18) dX5_greatestFlow_18 rfl 0 rfl ?_
  refine sm_iload_n (pc := 19) dX5_greatestFlow_19 rfl 2 rfl ?_
  refine sm_callVL (pc := 20) [.int x3] (fun lq rq Sq hq => m_X5_flow Z lq x0 x3 S hq) dX5_greatestFlow_20 mi_X5_flow ml_RX5_43 ⟨Nat.le_of_ble_eq_true rfl, Nat.le_of_ble_eq_true rfl, rfl, rfl⟩ rfl (by decide) rfl (Nat.le_of_ble_eq_true rfl) rfl (fun r20 S20 => ?_)
  refine sm_callSL (pc := 23) [.long x1, .long r20] (fun lq rq Sq hq => m_J9_max_f86c9 Z lq x1 r20 S20 hq) dX5_greatestFlow_23 mi_J9_max_f86c9 ml_RX5_47 ⟨Nat.le_of_ble_eq_true rfl, Nat.le_of_ble_eq_true rfl, rfl, rfl⟩ rfl (Nat.le_of_ble_eq_true rfl) rfl (fun r23 S23 => ?_)
  refine sm_lstore_n (pc := 26) (lv' := [(1, .long r23), (0, .ref x0), (3, .int x3)]) dX5_greatestFlow_26 rfl (by decide) rfl ?_
  refine sm_iinc (pc := 27) (x3 + 1) (lv' := [(3, .int (x3 + 1)), (1, .long r23), (0, .ref x0)]) dX5_greatestFlow_27 2 rfl rfl (by decide) rfl ?_
  refine sm_goto 9 (pc := 30) dX5_greatestFlow_30 rfl ?_
  refine sm_sub [2, 1, 0] rfl ?_
  exact h9 x0 r23 (x3 + 1) S23
set_option maxRecDepth 20000 in
set_option maxHeartbeats 4000000 in
theorem sL_X5_greatestFlow_9 (Z : ZT)  (n : Nat) : ∀ (x0 : Nat) (x1 : Int64) (x3 : Int32)  (S : St), Sim eL Z rm_X5_greatestFlow RX5 cX5_greatestFlow 4 (some .long) 9 [(0, .ref x0), (1, .long x1), (3, .int x3)] [] S (L_X5_greatestFlow_9  n x0 x1 x3 S) := by
  induction n with
  | zero => intros; exact sm_none
  | succ n ih => intro x0 x1 x3 S; exact sB_X5_greatestFlow_9 Z  (L_X5_greatestFlow_9  n) ih x0 x1 x3 S
set_option maxRecDepth 20000 in
set_option maxHeartbeats 4000000 in
theorem s_X5_greatestFlow (Z : ZT) (c : Nat) (S : St) : Sim eL Z rm_X5_greatestFlow RX5 cX5_greatestFlow 4 (some .long) 0 [(0, .ref c)] [] S (F_X5_greatestFlow c S) := by
  unfold F_X5_greatestFlow
  refine sm_lconst (pc := 0) (0 : Int64) dX5_greatestFlow_0 (by decide) ?_
  refine sm_lstore_n (pc := 1) (lv' := [(1, .long (0 : Int64)), (0, .ref c)]) dX5_greatestFlow_1 rfl (by decide) rfl ?_
  refine sm_aload_n (pc := 2) dX5_greatestFlow_2 rfl 1 rfl ?_
  refine sm_getI (pc := 3) dX5_greatestFlow_3 fr_RX5_9 (by decide) rfl (fun v3 => ?_)
  refine sm_iconst (pc := 6) (1 : Int32) dX5_greatestFlow_6 (by decide) ?_
  refine sm_iadd (pc := 7) dX5_greatestFlow_7 ?_
  refine sm_bdI (fun v8 => ?_)
  refine sm_istore_n (pc := 8) (lv' := [(3, .int v8), (1, .long (0 : Int64)), (0, .ref c)]) dX5_greatestFlow_8 rfl (by decide) rfl ?_
  refine sm_sub [2, 1, 0] rfl ?_
  exact sL_X5_greatestFlow_9 Z  6000 c (0 : Int64) v8 S
set_option maxRecDepth 20000 in
set_option maxHeartbeats 4000000 in
theorem m_X5_greatestFlow (Z : ZT) (l : Launch) (c : Nat) (S : St) {r : Int64} {S' : St} (h : F_X5_greatestFlow c S = some (r, S')) : MetX Z l yX5_greatestFlow cX5_greatestFlow 4 (some .long) rm_X5_greatestFlow [.ref c] S (eL r) S' := Sim.met (by decide +kernel) rfl (Nat.le_of_ble_eq_true rfl) (s_X5_greatestFlow Z c S) l h
set_option maxRecDepth 20000 in
set_option maxHeartbeats 4000000 in
theorem sJ_X5_lastWithPrincipal_35 (Z : ZT) (rec9 : (Nat → Int32 → Int32 → St → Option (Int32 × St))) (h9 : ∀ (x0 : Nat) (x1 : Int32) (x2 : Int32)  (S : St), Sim eI Z rm_X5_lastWithPrincipal RX5 cX5_lastWithPrincipal 3 (some .int) 9 [(0, .ref x0), (1, .int x1), (2, .int x2)] [] S (rec9 x0 x1 x2 S)) (x0 : Nat) (x1 : Int32) (x2 : Int32)  (S : St) : Sim eI Z rm_X5_lastWithPrincipal RX5 cX5_lastWithPrincipal 3 (some .int) 35 [(0, .ref x0), (1, .int x1), (2, .int x2)] [] S (J_X5_lastWithPrincipal_35 rec9 x0 x1 x2 S) := by
  unfold J_X5_lastWithPrincipal_35
  refine sm_iinc (pc := 35) (x2 + 1) (lv' := [(2, .int (x2 + 1)), (0, .ref x0), (1, .int x1)]) dX5_lastWithPrincipal_35 2 rfl rfl (by decide) rfl ?_
  refine sm_goto 9 (pc := 38) dX5_lastWithPrincipal_38 rfl ?_
  refine sm_sub [1, 2, 0] rfl ?_
  exact h9 x0 x1 (x2 + 1) S
set_option maxRecDepth 20000 in
set_option maxHeartbeats 4000000 in
theorem sB_X5_lastWithPrincipal_9 (Z : ZT) (rec9 : (Nat → Int32 → Int32 → St → Option (Int32 × St))) (h9 : ∀ (x0 : Nat) (x1 : Int32) (x2 : Int32)  (S : St), Sim eI Z rm_X5_lastWithPrincipal RX5 cX5_lastWithPrincipal 3 (some .int) 9 [(0, .ref x0), (1, .int x1), (2, .int x2)] [] S (rec9 x0 x1 x2 S)) (x0 : Nat) (x1 : Int32) (x2 : Int32)  (S : St) : Sim eI Z rm_X5_lastWithPrincipal RX5 cX5_lastWithPrincipal 3 (some .int) 9 [(0, .ref x0), (1, .int x1), (2, .int x2)] [] S (B_X5_lastWithPrincipal_9 rec9 x0 x1 x2 S) := by
  unfold B_X5_lastWithPrincipal_9
  refine sm_iload_n (pc := 9) dX5_lastWithPrincipal_9 rfl 2 rfl ?_
  refine sm_aload_n (pc := 10) dX5_lastWithPrincipal_10 rfl 0 rfl ?_
  refine sm_getI (pc := 11) dX5_lastWithPrincipal_11 fr_RX5_15 (by decide) rfl (fun v11 => ?_)
  refine sm_icmp_gt 41 (pc := 14) dX5_lastWithPrincipal_14 rfl ?_ ?_
  · refine sm_iload_n (pc := 41) dX5_lastWithPrincipal_41 rfl 1 rfl ?_
    exact sm_retI (pc := 42) dX5_lastWithPrincipal_42
  refine sm_aload_n (pc := 17) dX5_lastWithPrincipal_17 rfl 0 rfl ?_
  refine sm_getR (pc := 18) dX5_lastWithPrincipal_18 fr_RX5_22 (by decide) rfl (fun v18 => ?_)
  refine sm_iload_n (pc := 21) dX5_lastWithPrincipal_21 rfl 2 rfl ?_
  refine sm_aJ (pc := 22) dX5_lastWithPrincipal_22 (fun v22 => ?_)
  refine sm_lconst (pc := 23) (0 : Int64) dX5_lastWithPrincipal_23 (by decide) ?_
  refine sm_lcmp_le 35 (pc := 24) dX5_lastWithPrincipal_24 dX5_lastWithPrincipal_25 rfl ?_ ?_
  · refine sm_sub [0, 1, 2] rfl ?_
    exact sJ_X5_lastWithPrincipal_35 Z rec9 h9 x0 x1 x2 S
  refine sm_iload_n (pc := 28) dX5_lastWithPrincipal_28 rfl 2 rfl ?_
  refine sm_aload_n (pc := 29) dX5_lastWithPrincipal_29 rfl 0 rfl ?_
  refine sm_getI (pc := 30) dX5_lastWithPrincipal_30 fr_RX5_9 (by decide) rfl (fun v30 => ?_)
  refine sm_isub (pc := 33) dX5_lastWithPrincipal_33 ?_
  refine sm_bdI (fun v34 => ?_)
  refine sm_istore_n (pc := 34) (lv' := [(1, .int v34), (0, .ref x0), (2, .int x2)]) dX5_lastWithPrincipal_34 rfl (by decide) rfl ?_
  refine sm_sub [1, 0, 2] rfl ?_
  exact sJ_X5_lastWithPrincipal_35 Z rec9 h9 x0 v34 x2 S
set_option maxRecDepth 20000 in
set_option maxHeartbeats 4000000 in
theorem sL_X5_lastWithPrincipal_9 (Z : ZT)  (n : Nat) : ∀ (x0 : Nat) (x1 : Int32) (x2 : Int32)  (S : St), Sim eI Z rm_X5_lastWithPrincipal RX5 cX5_lastWithPrincipal 3 (some .int) 9 [(0, .ref x0), (1, .int x1), (2, .int x2)] [] S (L_X5_lastWithPrincipal_9  n x0 x1 x2 S) := by
  induction n with
  | zero => intros; exact sm_none
  | succ n ih => intro x0 x1 x2 S; exact sB_X5_lastWithPrincipal_9 Z  (L_X5_lastWithPrincipal_9  n) ih x0 x1 x2 S
set_option maxRecDepth 20000 in
set_option maxHeartbeats 4000000 in
theorem s_X5_lastWithPrincipal (Z : ZT) (c : Nat) (S : St) : Sim eI Z rm_X5_lastWithPrincipal RX5 cX5_lastWithPrincipal 3 (some .int) 0 [(0, .ref c)] [] S (F_X5_lastWithPrincipal c S) := by
  unfold F_X5_lastWithPrincipal
  refine sm_iconst (pc := 0) (0 : Int32) dX5_lastWithPrincipal_0 (by decide) ?_
  refine sm_istore_n (pc := 1) (lv' := [(1, .int (0 : Int32)), (0, .ref c)]) dX5_lastWithPrincipal_1 rfl (by decide) rfl ?_
  refine sm_aload_n (pc := 2) dX5_lastWithPrincipal_2 rfl 1 rfl ?_
  refine sm_getI (pc := 3) dX5_lastWithPrincipal_3 fr_RX5_9 (by decide) rfl (fun v3 => ?_)
  refine sm_iconst (pc := 6) (1 : Int32) dX5_lastWithPrincipal_6 (by decide) ?_
  refine sm_iadd (pc := 7) dX5_lastWithPrincipal_7 ?_
  refine sm_bdI (fun v8 => ?_)
  refine sm_istore_n (pc := 8) (lv' := [(2, .int v8), (1, .int (0 : Int32)), (0, .ref c)]) dX5_lastWithPrincipal_8 rfl (by decide) rfl ?_
  refine sm_sub [2, 1, 0] rfl ?_
  exact sL_X5_lastWithPrincipal_9 Z  6000 c (0 : Int32) v8 S
set_option maxRecDepth 20000 in
set_option maxHeartbeats 4000000 in
theorem m_X5_lastWithPrincipal (Z : ZT) (l : Launch) (c : Nat) (S : St) {r : Int32} {S' : St} (h : F_X5_lastWithPrincipal c S = some (r, S')) : MetX Z l yX5_lastWithPrincipal cX5_lastWithPrincipal 3 (some .int) rm_X5_lastWithPrincipal [.ref c] S (eI r) S' := Sim.met (by decide +kernel) rfl (Nat.le_of_ble_eq_true rfl) (s_X5_lastWithPrincipal Z c S) l h
set_option maxRecDepth 20000 in
set_option maxHeartbeats 4000000 in
theorem sB_X5_worth_8 (Z : ZT) (rec8 : (Nat → UInt64 → UInt64 → Int32 → St → Option (UInt64 × St))) (h8 : ∀ (x0 : Nat) (x1 : UInt64) (x3 : UInt64) (x5 : Int32)  (S : St), Sim eD Z rm_X5_worth RX5 cX5_worth 6 (some .double) 8 [(0, .ref x0), (1, .double x1), (3, .double x3), (5, .int x5)] [] S (rec8 x0 x1 x3 x5 S)) (x0 : Nat) (x1 : UInt64) (x3 : UInt64) (x5 : Int32)  (S : St) : Sim eD Z rm_X5_worth RX5 cX5_worth 6 (some .double) 8 [(0, .ref x0), (1, .double x1), (3, .double x3), (5, .int x5)] [] S (B_X5_worth_8 rec8 x0 x1 x3 x5 S) := by
  unfold B_X5_worth_8
  refine sm_iload (pc := 8) dX5_worth_8 3 rfl ?_
  refine sm_aload_n (pc := 10) dX5_worth_10 rfl 0 rfl ?_
  refine sm_getI (pc := 11) dX5_worth_11 fr_RX5_9 (by decide) rfl (fun v11 => ?_)
  refine sm_icmp_le 37 (pc := 14) dX5_worth_14 rfl ?_ ?_
  · refine sm_dload_n (pc := 37) dX5_worth_37 rfl 2 rfl ?_
    exact sm_retD (pc := 38) dX5_worth_38
  refine sm_dload_n (pc := 17) dX5_worth_17 rfl 2 rfl ?_
  refine sm_aload_n (pc := 18) dX5_worth_18 rfl 0 rfl ?_
  refine sm_iload (pc := 19) dX5_worth_19 3 rfl ?_
  refine sm_callVL (pc := 21) [.int x5] (fun lq rq Sq hq => m_X5_flow Z lq x0 x5 S hq) dX5_worth_21 mi_X5_flow ml_RX5_43 ⟨Nat.le_of_ble_eq_true rfl, Nat.le_of_ble_eq_true rfl, rfl, rfl⟩ rfl (by decide) rfl (Nat.le_of_ble_eq_true rfl) rfl (fun r21 S21 => ?_)
  refine sm_l2d (pc := 24) dX5_worth_24 ?_
  refine sm_dadd (pc := 25) dX5_worth_25 (fun v25 => ?_)
  refine sm_dconst1 (pc := 26) dX5_worth_26 ?_
  refine sm_dload_n (pc := 27) dX5_worth_27 rfl 1 rfl ?_
  refine sm_dadd (pc := 28) dX5_worth_28 (fun v28 => ?_)
  refine sm_ddiv (pc := 29) dX5_worth_29 (fun v29 => ?_)
  refine sm_dstore_n (pc := 30) (lv' := [(3, .double v29), (0, .ref x0), (1, .double x1), (5, .int x5)]) dX5_worth_30 rfl (by decide) rfl ?_
  refine sm_iinc (pc := 31) (x5 + (-1)) (lv' := [(5, .int (x5 + (-1))), (3, .double v29), (0, .ref x0), (1, .double x1)]) dX5_worth_31 3 rfl rfl (by decide) rfl ?_
  refine sm_goto 8 (pc := 34) dX5_worth_34 rfl ?_
  refine sm_sub [2, 3, 1, 0] rfl ?_
  exact h8 x0 x1 v29 (x5 + (-1)) S21
set_option maxRecDepth 20000 in
set_option maxHeartbeats 4000000 in
theorem sL_X5_worth_8 (Z : ZT)  (n : Nat) : ∀ (x0 : Nat) (x1 : UInt64) (x3 : UInt64) (x5 : Int32)  (S : St), Sim eD Z rm_X5_worth RX5 cX5_worth 6 (some .double) 8 [(0, .ref x0), (1, .double x1), (3, .double x3), (5, .int x5)] [] S (L_X5_worth_8  n x0 x1 x3 x5 S) := by
  induction n with
  | zero => intros; exact sm_none
  | succ n ih => intro x0 x1 x3 x5 S; exact sB_X5_worth_8 Z  (L_X5_worth_8  n) ih x0 x1 x3 x5 S
set_option maxRecDepth 20000 in
set_option maxHeartbeats 4000000 in
theorem s_X5_worth (Z : ZT) (c : Nat) (a1 : UInt64) (S : St) : Sim eD Z rm_X5_worth RX5 cX5_worth 6 (some .double) 0 [(0, .ref c), (1, .double a1)] [] S (F_X5_worth c a1 S) := by
  unfold F_X5_worth
  refine sm_dconst0 (pc := 0) dX5_worth_0 ?_
  refine sm_dstore_n (pc := 1) (lv' := [(3, .double FP.dconst0), (0, .ref c), (1, .double a1)]) dX5_worth_1 rfl (by decide) rfl ?_
  refine sm_aload_n (pc := 2) dX5_worth_2 rfl 1 rfl ?_
  refine sm_getI (pc := 3) dX5_worth_3 fr_RX5_15 (by decide) rfl (fun v3 => ?_)
  refine sm_istore (pc := 6) (lv' := [(5, .int v3), (3, .double FP.dconst0), (0, .ref c), (1, .double a1)]) dX5_worth_6 (by decide) rfl ?_
  refine sm_sub [2, 3, 1, 0] rfl ?_
  exact sL_X5_worth_8 Z  6000 c a1 FP.dconst0 v3 S
set_option maxRecDepth 20000 in
set_option maxHeartbeats 4000000 in
theorem m_X5_worth (Z : ZT) (l : Launch) (c : Nat) (a1 : UInt64) (S : St) {r : UInt64} {S' : St} (h : F_X5_worth c a1 S = some (r, S')) : MetX Z l yX5_worth cX5_worth 6 (some .double) rm_X5_worth [.ref c, .double a1] S (eD r) S' := Sim.met (by decide +kernel) rfl (Nat.le_of_ble_eq_true rfl) (s_X5_worth Z c a1 S) l h
set_option maxRecDepth 20000 in
set_option maxHeartbeats 4000000 in
theorem sB_X5_worthByNumber_8 (Z : ZT) (rec8 : (Nat → UInt64 → UInt64 → Int32 → St → Option (UInt64 × St))) (h8 : ∀ (x0 : Nat) (x1 : UInt64) (x3 : UInt64) (x5 : Int32)  (S : St), Sim eD Z rm_X5_worthByNumber RX5 cX5_worthByNumber 6 (some .double) 8 [(0, .ref x0), (1, .double x1), (3, .double x3), (5, .int x5)] [] S (rec8 x0 x1 x3 x5 S)) (x0 : Nat) (x1 : UInt64) (x3 : UInt64) (x5 : Int32)  (S : St) : Sim eD Z rm_X5_worthByNumber RX5 cX5_worthByNumber 6 (some .double) 8 [(0, .ref x0), (1, .double x1), (3, .double x3), (5, .int x5)] [] S (B_X5_worthByNumber_8 rec8 x0 x1 x3 x5 S) := by
  unfold B_X5_worthByNumber_8
  refine sm_iload (pc := 8) dX5_worthByNumber_8 3 rfl ?_
  refine sm_aload_n (pc := 10) dX5_worthByNumber_10 rfl 0 rfl ?_
  refine sm_getI (pc := 11) dX5_worthByNumber_11 fr_RX5_9 (by decide) rfl (fun v11 => ?_)
  refine sm_icmp_le 46 (pc := 14) dX5_worthByNumber_14 rfl ?_ ?_
  · refine sm_dload_n (pc := 46) dX5_worthByNumber_46 rfl 2 rfl ?_
    exact sm_retD (pc := 47) dX5_worthByNumber_47
  refine sm_dload_n (pc := 17) dX5_worthByNumber_17 rfl 2 rfl ?_
  refine sm_aload_n (pc := 18) dX5_worthByNumber_18 rfl 0 rfl ?_
  refine sm_iload (pc := 19) dX5_worthByNumber_19 3 rfl ?_
  refine sm_callVL (pc := 21) [.int x5] (fun lq rq Sq hq => m_X5_flow Z lq x0 x5 S hq) dX5_worthByNumber_21 mi_X5_flow ml_RX5_43 ⟨Nat.le_of_ble_eq_true rfl, Nat.le_of_ble_eq_true rfl, rfl, rfl⟩ rfl (by decide) rfl (Nat.le_of_ble_eq_true rfl) rfl (fun r21 S21 => ?_)
  refine sm_iload (pc := 24) dX5_worthByNumber_24 3 rfl ?_
  refine sm_aload_n (pc := 26) dX5_worthByNumber_26 rfl 0 rfl ?_
  refine sm_getI (pc := 27) dX5_worthByNumber_27 fr_RX5_9 (by decide) rfl (fun v27 => ?_)
  refine sm_isub (pc := 30) dX5_worthByNumber_30 ?_
  refine sm_i2l (pc := 31) dX5_worthByNumber_31 ?_
  refine sm_lmul (pc := 32) dX5_worthByNumber_32 ?_
  refine sm_l2d (pc := 33) dX5_worthByNumber_33 ?_
  refine sm_dadd (pc := 34) dX5_worthByNumber_34 (fun v34 => ?_)
  refine sm_dconst1 (pc := 35) dX5_worthByNumber_35 ?_
  refine sm_dload_n (pc := 36) dX5_worthByNumber_36 rfl 1 rfl ?_
  refine sm_dadd (pc := 37) dX5_worthByNumber_37 (fun v37 => ?_)
  refine sm_ddiv (pc := 38) dX5_worthByNumber_38 (fun v38 => ?_)
  refine sm_dstore_n (pc := 39) (lv' := [(3, .double v38), (0, .ref x0), (1, .double x1), (5, .int x5)]) dX5_worthByNumber_39 rfl (by decide) rfl ?_
  refine sm_iinc (pc := 40) (x5 + (-1)) (lv' := [(5, .int (x5 + (-1))), (3, .double v38), (0, .ref x0), (1, .double x1)]) dX5_worthByNumber_40 3 rfl rfl (by decide) rfl ?_
  refine sm_goto 8 (pc := 43) dX5_worthByNumber_43 rfl ?_
  refine sm_sub [2, 3, 1, 0] rfl ?_
  exact h8 x0 x1 v38 (x5 + (-1)) S21
set_option maxRecDepth 20000 in
set_option maxHeartbeats 4000000 in
theorem sL_X5_worthByNumber_8 (Z : ZT)  (n : Nat) : ∀ (x0 : Nat) (x1 : UInt64) (x3 : UInt64) (x5 : Int32)  (S : St), Sim eD Z rm_X5_worthByNumber RX5 cX5_worthByNumber 6 (some .double) 8 [(0, .ref x0), (1, .double x1), (3, .double x3), (5, .int x5)] [] S (L_X5_worthByNumber_8  n x0 x1 x3 x5 S) := by
  induction n with
  | zero => intros; exact sm_none
  | succ n ih => intro x0 x1 x3 x5 S; exact sB_X5_worthByNumber_8 Z  (L_X5_worthByNumber_8  n) ih x0 x1 x3 x5 S
set_option maxRecDepth 20000 in
set_option maxHeartbeats 4000000 in
theorem s_X5_worthByNumber (Z : ZT) (c : Nat) (a1 : UInt64) (S : St) : Sim eD Z rm_X5_worthByNumber RX5 cX5_worthByNumber 6 (some .double) 0 [(0, .ref c), (1, .double a1)] [] S (F_X5_worthByNumber c a1 S) := by
  unfold F_X5_worthByNumber
  refine sm_dconst0 (pc := 0) dX5_worthByNumber_0 ?_
  refine sm_dstore_n (pc := 1) (lv' := [(3, .double FP.dconst0), (0, .ref c), (1, .double a1)]) dX5_worthByNumber_1 rfl (by decide) rfl ?_
  refine sm_aload_n (pc := 2) dX5_worthByNumber_2 rfl 1 rfl ?_
  refine sm_getI (pc := 3) dX5_worthByNumber_3 fr_RX5_15 (by decide) rfl (fun v3 => ?_)
  refine sm_istore (pc := 6) (lv' := [(5, .int v3), (3, .double FP.dconst0), (0, .ref c), (1, .double a1)]) dX5_worthByNumber_6 (by decide) rfl ?_
  refine sm_sub [2, 3, 1, 0] rfl ?_
  exact sL_X5_worthByNumber_8 Z  6000 c a1 FP.dconst0 v3 S
set_option maxRecDepth 20000 in
set_option maxHeartbeats 4000000 in
theorem m_X5_worthByNumber (Z : ZT) (l : Launch) (c : Nat) (a1 : UInt64) (S : St) {r : UInt64} {S' : St} (h : F_X5_worthByNumber c a1 S = some (r, S')) : MetX Z l yX5_worthByNumber cX5_worthByNumber 6 (some .double) rm_X5_worthByNumber [.ref c, .double a1] S (eD r) S' := Sim.met (by decide +kernel) rfl (Nat.le_of_ble_eq_true rfl) (s_X5_worthByNumber Z c a1 S) l h
set_option maxRecDepth 20000 in
set_option maxHeartbeats 4000000 in
theorem sJ_X5_yieldBy_46 (Z : ZT) (rec8 : (Nat → UInt64 → UInt64 → UInt64 → Int32 → St → Option (UInt64 × St))) (h8 : ∀ (x0 : Nat) (x1 : UInt64) (x3 : UInt64) (x5 : UInt64) (x7 : Int32)  (S : St), Sim eD Z rm_X5_yieldBy RX5 cX5_yieldBy 10 (some .double) 8 [(0, .ref x0), (1, .double x1), (3, .double x3), (5, .double x5), (7, .int x7)] [] S (rec8 x0 x1 x3 x5 x7 S)) (x0 : Nat) (x1 : UInt64) (x3 : UInt64) (x5 : UInt64) (x7 : Int32)  (S : St) : Sim eD Z rm_X5_yieldBy RX5 cX5_yieldBy 10 (some .double) 46 [(0, .ref x0), (1, .double x1), (3, .double x3), (5, .double x5), (7, .int x7)] [] S (J_X5_yieldBy_46 rec8 x0 x1 x3 x5 x7 S) := by
  unfold J_X5_yieldBy_46
  refine sm_iinc (pc := 46) (x7 + 1) (lv' := [(7, .int (x7 + 1)), (0, .ref x0), (1, .double x1), (3, .double x3), (5, .double x5)]) dX5_yieldBy_46 4 rfl rfl (by decide) rfl ?_
  refine sm_goto 8 (pc := 49) dX5_yieldBy_49 rfl ?_
  refine sm_sub [1, 2, 3, 4, 0] rfl ?_
  exact h8 x0 x1 x3 x5 (x7 + 1) S
set_option maxRecDepth 20000 in
set_option maxHeartbeats 4000000 in
theorem sB_X5_yieldBy_8 (Z : ZT) (rec8 : (Nat → UInt64 → UInt64 → UInt64 → Int32 → St → Option (UInt64 × St))) (h8 : ∀ (x0 : Nat) (x1 : UInt64) (x3 : UInt64) (x5 : UInt64) (x7 : Int32)  (S : St), Sim eD Z rm_X5_yieldBy RX5 cX5_yieldBy 10 (some .double) 8 [(0, .ref x0), (1, .double x1), (3, .double x3), (5, .double x5), (7, .int x7)] [] S (rec8 x0 x1 x3 x5 x7 S)) (x0 : Nat) (x1 : UInt64) (x3 : UInt64) (x5 : UInt64) (x7 : Int32)  (S : St) : Sim eD Z rm_X5_yieldBy RX5 cX5_yieldBy 10 (some .double) 8 [(0, .ref x0), (1, .double x1), (3, .double x3), (5, .double x5), (7, .int x7)] [] S (B_X5_yieldBy_8 rec8 x0 x1 x3 x5 x7 S) := by
  unfold B_X5_yieldBy_8
  refine sm_iload (pc := 8) dX5_yieldBy_8 4 rfl ?_
  refine sm_bipush (pc := 10) (50 : Int32) dX5_yieldBy_10 (by decide) ?_
  refine sm_icmp_ge 52 (pc := 12) dX5_yieldBy_12 rfl ?_ ?_
  · refine sm_dload_n (pc := 52) dX5_yieldBy_52 rfl 2 rfl ?_
    exact sm_retD (pc := 53) dX5_yieldBy_53
  refine sm_dload_n (pc := 15) dX5_yieldBy_15 rfl 2 rfl ?_
  refine sm_dload (pc := 16) dX5_yieldBy_16 3 rfl ?_
  refine sm_dadd (pc := 18) dX5_yieldBy_18 (fun v18 => ?_)
  refine sm_ldc2d (pc := 19) (4611686018427387904 : UInt64) dX5_yieldBy_19 kc_RX5_53 ?_
  refine sm_ddiv (pc := 22) dX5_yieldBy_22 (fun v22 => ?_)
  refine sm_dstore (pc := 23) (lv' := [(8, .double v22), (0, .ref x0), (1, .double x1), (3, .double x3), (5, .double x5), (7, .int x7)]) dX5_yieldBy_23 (by decide) rfl ?_
  refine sm_aload_n (pc := 25) dX5_yieldBy_25 rfl 1 rfl ?_
  refine sm_dload (pc := 26) dX5_yieldBy_26 0 rfl ?_
  refine sm_callVD (pc := 28) [.double v22] (fun lq rq Sq hq => m_X5_worth Z lq x0 v22 S hq) dX5_yieldBy_28 mi_X5_worth ml_RX5_55 ⟨Nat.le_of_ble_eq_true rfl, Nat.le_of_ble_eq_true rfl, rfl, rfl⟩ rfl (by decide) rfl (Nat.le_of_ble_eq_true rfl) rfl (fun r28 S28 => ?_)
  refine sm_dload_n (pc := 31) dX5_yieldBy_31 rfl 2 rfl ?_
  refine sm_dcmp_le 42 (pc := 32) dX5_yieldBy_32 dX5_yieldBy_33 rfl ?_ ?_
  · refine sm_dload (pc := 42) dX5_yieldBy_42 0 rfl ?_
    refine sm_dstore (pc := 44) (lv' := [(5, .double v22), (8, .double v22), (0, .ref x0), (1, .double x1), (3, .double x3), (7, .int x7)]) dX5_yieldBy_44 (by decide) rfl ?_
    refine sm_sub [2, 3, 4, 0, 5] rfl ?_
    exact sJ_X5_yieldBy_46 Z rec8 h8 x0 x1 x3 v22 x7 S28
  refine sm_dload (pc := 36) dX5_yieldBy_36 0 rfl ?_
  refine sm_dstore_n (pc := 38) (lv' := [(3, .double v22), (8, .double v22), (0, .ref x0), (1, .double x1), (5, .double x5), (7, .int x7)]) dX5_yieldBy_38 rfl (by decide) rfl ?_
  refine sm_goto 46 (pc := 39) dX5_yieldBy_39 rfl ?_
  refine sm_sub [2, 3, 0, 4, 5] rfl ?_
  exact sJ_X5_yieldBy_46 Z rec8 h8 x0 x1 v22 x5 x7 S28
set_option maxRecDepth 20000 in
set_option maxHeartbeats 4000000 in
theorem sL_X5_yieldBy_8 (Z : ZT)  (n : Nat) : ∀ (x0 : Nat) (x1 : UInt64) (x3 : UInt64) (x5 : UInt64) (x7 : Int32)  (S : St), Sim eD Z rm_X5_yieldBy RX5 cX5_yieldBy 10 (some .double) 8 [(0, .ref x0), (1, .double x1), (3, .double x3), (5, .double x5), (7, .int x7)] [] S (L_X5_yieldBy_8  n x0 x1 x3 x5 x7 S) := by
  induction n with
  | zero => intros; exact sm_none
  | succ n ih => intro x0 x1 x3 x5 x7 S; exact sB_X5_yieldBy_8 Z  (L_X5_yieldBy_8  n) ih x0 x1 x3 x5 x7 S
set_option maxRecDepth 20000 in
set_option maxHeartbeats 4000000 in
theorem s_X5_yieldBy (Z : ZT) (c : Nat) (a1 : UInt64) (S : St) : Sim eD Z rm_X5_yieldBy RX5 cX5_yieldBy 10 (some .double) 0 [(0, .ref c), (1, .double a1)] [] S (F_X5_yieldBy c a1 S) := by
  unfold F_X5_yieldBy
  refine sm_dconst0 (pc := 0) dX5_yieldBy_0 ?_
  refine sm_dstore_n (pc := 1) (lv' := [(3, .double FP.dconst0), (0, .ref c), (1, .double a1)]) dX5_yieldBy_1 rfl (by decide) rfl ?_
  refine sm_dconst1 (pc := 2) dX5_yieldBy_2 ?_
  refine sm_dstore (pc := 3) (lv' := [(5, .double FP.dconst1), (3, .double FP.dconst0), (0, .ref c), (1, .double a1)]) dX5_yieldBy_3 (by decide) rfl ?_
  refine sm_iconst (pc := 5) (0 : Int32) dX5_yieldBy_5 (by decide) ?_
  refine sm_istore (pc := 6) (lv' := [(7, .int (0 : Int32)), (5, .double FP.dconst1), (3, .double FP.dconst0), (0, .ref c), (1, .double a1)]) dX5_yieldBy_6 (by decide) rfl ?_
  refine sm_sub [3, 4, 2, 1, 0] rfl ?_
  exact sL_X5_yieldBy_8 Z  6000 c a1 FP.dconst0 FP.dconst1 (0 : Int32) S
set_option maxRecDepth 20000 in
set_option maxHeartbeats 4000000 in
theorem m_X5_yieldBy (Z : ZT) (l : Launch) (c : Nat) (a1 : UInt64) (S : St) {r : UInt64} {S' : St} (h : F_X5_yieldBy c a1 S = some (r, S')) : MetX Z l yX5_yieldBy cX5_yieldBy 10 (some .double) rm_X5_yieldBy [.ref c, .double a1] S (eD r) S' := Sim.met (by decide +kernel) rfl (Nat.le_of_ble_eq_true rfl) (s_X5_yieldBy Z c a1 S) l h
set_option maxRecDepth 20000 in
set_option maxHeartbeats 4000000 in
theorem sJ_X6_here_31 (Z : ZT)   (t0 : Int32) (S : St) : Sim eI Z rm_X6_here RX6 cX6_here 1 (some .int) 31 [] [.int t0] S (J_X6_here_31  t0 S) := by
  unfold J_X6_here_31
  exact sm_retI (pc := 31) dX6_here_31
set_option maxRecDepth 20000 in
set_option maxHeartbeats 4000000 in
theorem sJ_X6_here_30 (Z : ZT)    (S : St) : Sim eI Z rm_X6_here RX6 cX6_here 1 (some .int) 30 [] [] S (J_X6_here_30  S) := by
  unfold J_X6_here_30
  refine sm_iconst (pc := 30) (-1 : Int32) dX6_here_30 (by decide) ?_
  refine sm_sub [] rfl ?_
  exact sJ_X6_here_31 Z  (-1 : Int32) S
set_option maxRecDepth 20000 in
set_option maxHeartbeats 4000000 in
theorem s_X6_here (Z : ZT) (c : Nat) (S : St) : Sim eI Z rm_X6_here RX6 cX6_here 1 (some .int) 0 [(0, .ref c)] [] S (F_X6_here c S) := by
  unfold F_X6_here
  refine sm_aload_n (pc := 0) dX6_here_0 rfl 0 rfl ?_
  refine sm_getI (pc := 1) dX6_here_1 fr_RX6_15 (by decide) rfl (fun v1 => ?_)
  refine sm_if_lt 30 (pc := 4) dX6_here_4 rfl ?_ ?_
  · refine sm_sub [] rfl ?_
    exact sJ_X6_here_30 Z  S
  refine sm_aload_n (pc := 7) dX6_here_7 rfl 0 rfl ?_
  refine sm_getI (pc := 8) dX6_here_8 fr_RX6_15 (by decide) rfl (fun v8 => ?_)
  refine sm_aload_n (pc := 11) dX6_here_11 rfl 0 rfl ?_
  refine sm_getI (pc := 12) dX6_here_12 fr_RX6_9 (by decide) rfl (fun v12 => ?_)
  refine sm_icmp_ge 30 (pc := 15) dX6_here_15 rfl ?_ ?_
  · refine sm_sub [] rfl ?_
    exact sJ_X6_here_30 Z  S
  refine sm_aload_n (pc := 18) dX6_here_18 rfl 0 rfl ?_
  refine sm_getR (pc := 19) dX6_here_19 fr_RX6_21 (by decide) rfl (fun v19 => ?_)
  refine sm_aload_n (pc := 22) dX6_here_22 rfl 0 rfl ?_
  refine sm_getI (pc := 23) dX6_here_23 fr_RX6_15 (by decide) rfl (fun v23 => ?_)
  refine sm_aI (pc := 26) dX6_here_26 (fun v26 => ?_)
  refine sm_goto 31 (pc := 27) dX6_here_27 rfl ?_
  refine sm_sub [] rfl ?_
  exact sJ_X6_here_31 Z  v26 S
set_option maxRecDepth 20000 in
set_option maxHeartbeats 4000000 in
theorem m_X6_here (Z : ZT) (l : Launch) (c : Nat) (S : St) {r : Int32} {S' : St} (h : F_X6_here c S = some (r, S')) : MetX Z l yX6_here cX6_here 1 (some .int) rm_X6_here [.ref c] S (eI r) S' := Sim.met (by decide +kernel) rfl (Nat.le_of_ble_eq_true rfl) (s_X6_here Z c S) l h
set_option maxRecDepth 20000 in
set_option maxHeartbeats 4000000 in
theorem sJ_X6_numbersOf_101 (Z : ZT)    (S : St) : Sim eI Z rm_X6_numbersOf RX6 cX6_numbersOf 1 (some .int) 101 [] [] S (J_X6_numbersOf_101  S) := by
  unfold J_X6_numbersOf_101
  refine sm_iconst (pc := 101) (1 : Int32) dX6_numbersOf_101 (by decide) ?_
  exact sm_retI (pc := 102) dX6_numbersOf_102
set_option maxRecDepth 20000 in
set_option maxHeartbeats 4000000 in
theorem sJ_X6_numbersOf_103 (Z : ZT)    (S : St) : Sim eI Z rm_X6_numbersOf RX6 cX6_numbersOf 1 (some .int) 103 [] [] S (J_X6_numbersOf_103  S) := by
  unfold J_X6_numbersOf_103
  refine sm_iconst (pc := 103) (0 : Int32) dX6_numbersOf_103 (by decide) ?_
  exact sm_retI (pc := 104) dX6_numbersOf_104
set_option maxRecDepth 20000 in
set_option maxHeartbeats 4000000 in
theorem sJ_X6_numbersOf_99 (Z : ZT)    (S : St) : Sim eI Z rm_X6_numbersOf RX6 cX6_numbersOf 1 (some .int) 99 [] [] S (J_X6_numbersOf_99  S) := by
  unfold J_X6_numbersOf_99
  refine sm_iconst (pc := 99) (2 : Int32) dX6_numbersOf_99 (by decide) ?_
  exact sm_retI (pc := 100) dX6_numbersOf_100
set_option maxRecDepth 20000 in
set_option maxHeartbeats 4000000 in
theorem s_X6_numbersOf (Z : ZT) (a1 : Int32) (S : St) : Sim eI Z rm_X6_numbersOf RX6 cX6_numbersOf 1 (some .int) 0 [(0, .int a1)] [] S (F_X6_numbersOf a1 S) := by
  unfold F_X6_numbersOf
  refine sm_iload_n (pc := 0) dX6_numbersOf_0 rfl 0 rfl ?_
  refine sm_tswk (pc := 1) 103 [101, 103, 101, 101, 103, 103, 103, 103, 96, 103, 103, 103, 99, 103, 99, 103, 103, 103, 103, 101] [100, 101, 102, 103, 104, 105, 106, 107, 108, 109, 110, 111, 112, 113, 114, 115, 116, 117, 118, 119] dX6_numbersOf_1 rfl (by decide) (by decide) (by decide) rfl ⟨?_, ?_, ?_, ?_, ?_, ?_, ?_, ?_, ?_, ?_, ?_, ?_, ?_, ?_, ?_, ?_, ?_, ?_, ?_, ?_, trivial⟩ ?_
  · refine sm_sub [] rfl ?_
    exact sJ_X6_numbersOf_101 Z  S
  · refine sm_sub [] rfl ?_
    exact sJ_X6_numbersOf_103 Z  S
  · refine sm_sub [] rfl ?_
    exact sJ_X6_numbersOf_101 Z  S
  · refine sm_sub [] rfl ?_
    exact sJ_X6_numbersOf_101 Z  S
  · refine sm_sub [] rfl ?_
    exact sJ_X6_numbersOf_103 Z  S
  · refine sm_sub [] rfl ?_
    exact sJ_X6_numbersOf_103 Z  S
  · refine sm_sub [] rfl ?_
    exact sJ_X6_numbersOf_103 Z  S
  · refine sm_sub [] rfl ?_
    exact sJ_X6_numbersOf_103 Z  S
  · refine sm_bipush (pc := 96) (6 : Int32) dX6_numbersOf_96 (by decide) ?_
    exact sm_retI (pc := 98) dX6_numbersOf_98
  · refine sm_sub [] rfl ?_
    exact sJ_X6_numbersOf_103 Z  S
  · refine sm_sub [] rfl ?_
    exact sJ_X6_numbersOf_103 Z  S
  · refine sm_sub [] rfl ?_
    exact sJ_X6_numbersOf_103 Z  S
  · refine sm_sub [] rfl ?_
    exact sJ_X6_numbersOf_99 Z  S
  · refine sm_sub [] rfl ?_
    exact sJ_X6_numbersOf_103 Z  S
  · refine sm_sub [] rfl ?_
    exact sJ_X6_numbersOf_99 Z  S
  · refine sm_sub [] rfl ?_
    exact sJ_X6_numbersOf_103 Z  S
  · refine sm_sub [] rfl ?_
    exact sJ_X6_numbersOf_103 Z  S
  · refine sm_sub [] rfl ?_
    exact sJ_X6_numbersOf_103 Z  S
  · refine sm_sub [] rfl ?_
    exact sJ_X6_numbersOf_103 Z  S
  · refine sm_sub [] rfl ?_
    exact sJ_X6_numbersOf_101 Z  S
  refine sm_sub [] rfl ?_
  exact sJ_X6_numbersOf_103 Z  S
set_option maxRecDepth 20000 in
set_option maxHeartbeats 4000000 in
theorem m_X6_numbersOf (Z : ZT) (l : Launch) (a1 : Int32) (S : St) {r : Int32} {S' : St} (h : F_X6_numbersOf a1 S = some (r, S')) : MetX Z l yX6_numbersOf cX6_numbersOf 1 (some .int) rm_X6_numbersOf [.int a1] S (eI r) S' := Sim.met (by decide +kernel) rfl (Nat.le_of_ble_eq_true rfl) (s_X6_numbersOf Z a1 S) l h
set_option maxRecDepth 20000 in
set_option maxHeartbeats 4000000 in
theorem sJ_X6_readNumber_94 (Z : ZT)   (t0 : Int32) (S : St) : Sim eI Z rm_X6_readNumber RX6 cX6_readNumber 4 (some .boolean) 94 [] [.int t0] S (J_X6_readNumber_94  t0 S) := by
  unfold J_X6_readNumber_94
  exact sm_retZ (pc := 94) dX6_readNumber_94
set_option maxRecDepth 20000 in
set_option maxHeartbeats 4000000 in
theorem sJ_X6_readNumber_78 (Z : ZT)  (x0 : Nat) (x1 : Int32) (x2 : Int32) (x3 : Int32)  (S : St) : Sim eI Z rm_X6_readNumber RX6 cX6_readNumber 4 (some .boolean) 78 [(0, .ref x0), (1, .int x1), (2, .int x2), (3, .int x3)] [] S (J_X6_readNumber_78  x0 x1 x2 x3 S) := by
  unfold J_X6_readNumber_78
  refine sm_aload_n (pc := 78) dX6_readNumber_78 rfl 0 rfl ?_
  refine sm_getR (pc := 79) dX6_readNumber_79 fr_RX6_25 (by decide) rfl (fun v79 => ?_)
  refine sm_iload_n (pc := 82) dX6_readNumber_82 rfl 1 rfl ?_
  refine sm_iload_n (pc := 83) dX6_readNumber_83 rfl 2 rfl ?_
  refine sm_sI (pc := 84) dX6_readNumber_84 (fun S84 => ?_)
  refine sm_iload_n (pc := 85) dX6_readNumber_85 rfl 3 rfl ?_
  refine sm_if_le 93 (pc := 86) dX6_readNumber_86 rfl ?_ ?_
  · refine sm_iconst (pc := 93) (0 : Int32) dX6_readNumber_93 (by decide) ?_
    refine sm_sub [] rfl ?_
    exact sJ_X6_readNumber_94 Z  (0 : Int32) S84
  refine sm_iconst (pc := 89) (1 : Int32) dX6_readNumber_89 (by decide) ?_
  refine sm_goto 94 (pc := 90) dX6_readNumber_90 rfl ?_
  refine sm_sub [] rfl ?_
  exact sJ_X6_readNumber_94 Z  (1 : Int32) S84
set_option maxRecDepth 20000 in
set_option maxHeartbeats 4000000 in
theorem sB_X6_readNumber_25 (Z : ZT) (rec25 : (Nat → Int32 → Int32 → Int32 → St → Option (Int32 × St))) (h25 : ∀ (x0 : Nat) (x1 : Int32) (x2 : Int32) (x3 : Int32)  (S : St), Sim eI Z rm_X6_readNumber RX6 cX6_readNumber 4 (some .boolean) 25 [(0, .ref x0), (1, .int x1), (2, .int x2), (3, .int x3)] [] S (rec25 x0 x1 x2 x3 S)) (x0 : Nat) (x1 : Int32) (x2 : Int32) (x3 : Int32)  (S : St) : Sim eI Z rm_X6_readNumber RX6 cX6_readNumber 4 (some .boolean) 25 [(0, .ref x0), (1, .int x1), (2, .int x2), (3, .int x3)] [] S (B_X6_readNumber_25 rec25 x0 x1 x2 x3 S) := by
  unfold B_X6_readNumber_25
  refine sm_iload_n (pc := 25) dX6_readNumber_25 rfl 3 rfl ?_
  refine sm_bipush (pc := 26) (9 : Int32) dX6_readNumber_26 (by decide) ?_
  refine sm_icmp_ge 78 (pc := 28) dX6_readNumber_28 rfl ?_ ?_
  · refine sm_sub [0, 1, 2, 3] rfl ?_
    exact sJ_X6_readNumber_78 Z  x0 x1 x2 x3 S
  refine sm_aload_n (pc := 31) dX6_readNumber_31 rfl 0 rfl ?_
  refine sm_callVI (pc := 32) [] (fun lq rq Sq hq => m_X6_here Z lq x0 S hq) dX6_readNumber_32 mi_X6_here ml_RX6_32 ⟨Nat.le_of_ble_eq_true rfl, Nat.le_of_ble_eq_true rfl, rfl, rfl⟩ rfl (by decide) rfl (Nat.le_of_ble_eq_true rfl) rfl (fun r32 S32 => ?_)
  refine sm_bipush (pc := 35) (48 : Int32) dX6_readNumber_35 (by decide) ?_
  refine sm_icmp_lt 78 (pc := 37) dX6_readNumber_37 rfl ?_ ?_
  · refine sm_sub [0, 1, 2, 3] rfl ?_
    exact sJ_X6_readNumber_78 Z  x0 x1 x2 x3 S32
  refine sm_aload_n (pc := 40) dX6_readNumber_40 rfl 0 rfl ?_
  refine sm_callVI (pc := 41) [] (fun lq rq Sq hq => m_X6_here Z lq x0 S32 hq) dX6_readNumber_41 mi_X6_here ml_RX6_32 ⟨Nat.le_of_ble_eq_true rfl, Nat.le_of_ble_eq_true rfl, rfl, rfl⟩ rfl (by decide) rfl (Nat.le_of_ble_eq_true rfl) rfl (fun r41 S41 => ?_)
  refine sm_bipush (pc := 44) (57 : Int32) dX6_readNumber_44 (by decide) ?_
  refine sm_icmp_gt 78 (pc := 46) dX6_readNumber_46 rfl ?_ ?_
  · refine sm_sub [0, 1, 2, 3] rfl ?_
    exact sJ_X6_readNumber_78 Z  x0 x1 x2 x3 S41
  refine sm_iload_n (pc := 49) dX6_readNumber_49 rfl 2 rfl ?_
  refine sm_bipush (pc := 50) (10 : Int32) dX6_readNumber_50 (by decide) ?_
  refine sm_imul (pc := 52) dX6_readNumber_52 ?_
  refine sm_aload_n (pc := 53) dX6_readNumber_53 rfl 0 rfl ?_
  refine sm_callVI (pc := 54) [] (fun lq rq Sq hq => m_X6_here Z lq x0 S41 hq) dX6_readNumber_54 mi_X6_here ml_RX6_32 ⟨Nat.le_of_ble_eq_true rfl, Nat.le_of_ble_eq_true rfl, rfl, rfl⟩ rfl (by decide) rfl (Nat.le_of_ble_eq_true rfl) rfl (fun r54 S54 => ?_)
  refine sm_iadd (pc := 57) dX6_readNumber_57 ?_
  refine sm_bipush (pc := 58) (48 : Int32) dX6_readNumber_58 (by decide) ?_
  refine sm_isub (pc := 60) dX6_readNumber_60 ?_
  refine sm_bdI (fun v61 => ?_)
  refine sm_istore_n (pc := 61) (lv' := [(2, .int v61), (0, .ref x0), (1, .int x1), (3, .int x3)]) dX6_readNumber_61 rfl (by decide) rfl ?_
  refine sm_iinc (pc := 62) (x3 + 1) (lv' := [(3, .int (x3 + 1)), (2, .int v61), (0, .ref x0), (1, .int x1)]) dX6_readNumber_62 3 rfl rfl (by decide) rfl ?_
  refine sm_aload_n (pc := 65) dX6_readNumber_65 rfl 2 rfl ?_
  refine sm_dup (pc := 66) dX6_readNumber_66 rfl ?_
  refine sm_getI (pc := 67) dX6_readNumber_67 fr_RX6_15 (by decide) rfl (fun v67 => ?_)
  refine sm_iconst (pc := 70) (1 : Int32) dX6_readNumber_70 (by decide) ?_
  refine sm_iadd (pc := 71) dX6_readNumber_71 ?_
  refine sm_putI (pc := 72) dX6_readNumber_72 fw_RX6_15 (by decide) rfl (fun S72 => ?_)
  refine sm_goto 25 (pc := 75) dX6_readNumber_75 rfl ?_
  refine sm_sub [2, 3, 1, 0] rfl ?_
  exact h25 x0 x1 v61 (x3 + 1) S72
set_option maxRecDepth 20000 in
set_option maxHeartbeats 4000000 in
theorem sL_X6_readNumber_25 (Z : ZT)  (n : Nat) : ∀ (x0 : Nat) (x1 : Int32) (x2 : Int32) (x3 : Int32)  (S : St), Sim eI Z rm_X6_readNumber RX6 cX6_readNumber 4 (some .boolean) 25 [(0, .ref x0), (1, .int x1), (2, .int x2), (3, .int x3)] [] S (L_X6_readNumber_25  n x0 x1 x2 x3 S) := by
  induction n with
  | zero => intros; exact sm_none
  | succ n ih => intro x0 x1 x2 x3 S; exact sB_X6_readNumber_25 Z  (L_X6_readNumber_25  n) ih x0 x1 x2 x3 S
set_option maxRecDepth 20000 in
set_option maxHeartbeats 4000000 in
theorem s_X6_readNumber (Z : ZT) (c : Nat) (a1 : Int32) (S : St) : Sim eI Z rm_X6_readNumber RX6 cX6_readNumber 4 (some .boolean) 0 [(0, .ref c), (1, .int a1)] [] S (F_X6_readNumber c a1 S) := by
  unfold F_X6_readNumber
  refine sm_aload_n (pc := 0) dX6_readNumber_0 rfl 0 rfl ?_
  refine sm_callVI (pc := 1) [] (fun lq rq Sq hq => m_X6_here Z lq c S hq) dX6_readNumber_1 mi_X6_here ml_RX6_32 ⟨Nat.le_of_ble_eq_true rfl, Nat.le_of_ble_eq_true rfl, rfl, rfl⟩ rfl (by decide) rfl (Nat.le_of_ble_eq_true rfl) rfl (fun r1 S1 => ?_)
  refine sm_bipush (pc := 4) (32 : Int32) dX6_readNumber_4 (by decide) ?_
  refine sm_icmp_eq 11 (pc := 6) dX6_readNumber_6 rfl ?_ ?_
  · refine sm_aload_n (pc := 11) dX6_readNumber_11 rfl 0 rfl ?_
    refine sm_dup (pc := 12) dX6_readNumber_12 rfl ?_
    refine sm_getI (pc := 13) dX6_readNumber_13 fr_RX6_15 (by decide) rfl (fun v13 => ?_)
    refine sm_iconst (pc := 16) (1 : Int32) dX6_readNumber_16 (by decide) ?_
    refine sm_iadd (pc := 17) dX6_readNumber_17 ?_
    refine sm_putI (pc := 18) dX6_readNumber_18 fw_RX6_15 (by decide) rfl (fun S18 => ?_)
    refine sm_iconst (pc := 21) (0 : Int32) dX6_readNumber_21 (by decide) ?_
    refine sm_istore_n (pc := 22) (lv' := [(2, .int (0 : Int32)), (0, .ref c), (1, .int a1)]) dX6_readNumber_22 rfl (by decide) rfl ?_
    refine sm_iconst (pc := 23) (0 : Int32) dX6_readNumber_23 (by decide) ?_
    refine sm_istore_n (pc := 24) (lv' := [(3, .int (0 : Int32)), (2, .int (0 : Int32)), (0, .ref c), (1, .int a1)]) dX6_readNumber_24 rfl (by decide) rfl ?_
    refine sm_sub [2, 3, 1, 0] rfl ?_
    exact sL_X6_readNumber_25 Z  6000 c a1 (0 : Int32) (0 : Int32) S18
  refine sm_iconst (pc := 9) (0 : Int32) dX6_readNumber_9 (by decide) ?_
  exact sm_retZ (pc := 10) dX6_readNumber_10
set_option maxRecDepth 20000 in
set_option maxHeartbeats 4000000 in
theorem m_X6_readNumber (Z : ZT) (l : Launch) (c : Nat) (a1 : Int32) (S : St) {r : Int32} {S' : St} (h : F_X6_readNumber c a1 S = some (r, S')) : MetX Z l yX6_readNumber cX6_readNumber 4 (some .boolean) rm_X6_readNumber [.ref c, .int a1] S (eI r) S' := Sim.met (by decide +kernel) rfl (Nat.le_of_ble_eq_true rfl) (s_X6_readNumber Z c a1 S) l h
set_option maxRecDepth 20000 in
set_option maxHeartbeats 4000000 in
theorem sB_X6_readLine_34 (Z : ZT) (rec34 : (Nat → Int32 → Int32 → St → Option (Int32 × St))) (h34 : ∀ (x0 : Nat) (x1 : Int32) (x2 : Int32)  (S : St), Sim eI Z rm_X6_readLine RX6 cX6_readLine 3 (some .boolean) 34 [(0, .ref x0), (1, .int x1), (2, .int x2)] [] S (rec34 x0 x1 x2 S)) (x0 : Nat) (x1 : Int32) (x2 : Int32)  (S : St) : Sim eI Z rm_X6_readLine RX6 cX6_readLine 3 (some .boolean) 34 [(0, .ref x0), (1, .int x1), (2, .int x2)] [] S (B_X6_readLine_34 rec34 x0 x1 x2 S) := by
  unfold B_X6_readLine_34
  refine sm_iload_n (pc := 34) dX6_readLine_34 rfl 2 rfl ?_
  refine sm_iload_n (pc := 35) dX6_readLine_35 rfl 1 rfl ?_
  refine sm_icmp_ge 55 (pc := 36) dX6_readLine_36 rfl ?_ ?_
  · refine sm_iconst (pc := 55) (1 : Int32) dX6_readLine_55 (by decide) ?_
    exact sm_retZ (pc := 56) dX6_readLine_56
  refine sm_aload_n (pc := 39) dX6_readLine_39 rfl 0 rfl ?_
  refine sm_iload_n (pc := 40) dX6_readLine_40 rfl 2 rfl ?_
  refine sm_callVI (pc := 41) [.int x2] (fun lq rq Sq hq => m_X6_readNumber Z lq x0 x2 S hq) dX6_readLine_41 mi_X6_readNumber ml_RX6_40 ⟨Nat.le_of_ble_eq_true rfl, Nat.le_of_ble_eq_true rfl, rfl, rfl⟩ rfl (by decide) rfl (Nat.le_of_ble_eq_true rfl) rfl (fun r41 S41 => ?_)
  refine sm_if_ne 49 (pc := 44) dX6_readLine_44 rfl ?_ ?_
  · refine sm_iinc (pc := 49) (x2 + 1) (lv' := [(2, .int (x2 + 1)), (0, .ref x0), (1, .int x1)]) dX6_readLine_49 2 rfl rfl (by decide) rfl ?_
    refine sm_goto 34 (pc := 52) dX6_readLine_52 rfl ?_
    refine sm_sub [1, 2, 0] rfl ?_
    exact h34 x0 x1 (x2 + 1) S41
  refine sm_iconst (pc := 47) (0 : Int32) dX6_readLine_47 (by decide) ?_
  exact sm_retZ (pc := 48) dX6_readLine_48
set_option maxRecDepth 20000 in
set_option maxHeartbeats 4000000 in
theorem sL_X6_readLine_34 (Z : ZT)  (n : Nat) : ∀ (x0 : Nat) (x1 : Int32) (x2 : Int32)  (S : St), Sim eI Z rm_X6_readLine RX6 cX6_readLine 3 (some .boolean) 34 [(0, .ref x0), (1, .int x1), (2, .int x2)] [] S (L_X6_readLine_34  n x0 x1 x2 S) := by
  induction n with
  | zero => intros; exact sm_none
  | succ n ih => intro x0 x1 x2 S; exact sB_X6_readLine_34 Z  (L_X6_readLine_34  n) ih x0 x1 x2 S
set_option maxRecDepth 20000 in
set_option maxHeartbeats 4000000 in
theorem s_X6_readLine (Z : ZT) (c : Nat) (S : St) : Sim eI Z rm_X6_readLine RX6 cX6_readLine 3 (some .boolean) 0 [(0, .ref c)] [] S (F_X6_readLine c S) := by
  unfold F_X6_readLine
  refine sm_aload_n (pc := 0) dX6_readLine_0 rfl 0 rfl ?_
  refine sm_aload_n (pc := 1) dX6_readLine_1 rfl 0 rfl ?_
  refine sm_callVI (pc := 2) [] (fun lq rq Sq hq => m_X6_here Z lq c S hq) dX6_readLine_2 mi_X6_here ml_RX6_32 ⟨Nat.le_of_ble_eq_true rfl, Nat.le_of_ble_eq_true rfl, rfl, rfl⟩ rfl (by decide) rfl (Nat.le_of_ble_eq_true rfl) rfl (fun r2 S2 => ?_)
  refine sm_putI (pc := 5) dX6_readLine_5 fw_RX6_18 (by decide) rfl (fun S5 => ?_)
  refine sm_aload_n (pc := 8) dX6_readLine_8 rfl 0 rfl ?_
  refine sm_getI (pc := 9) dX6_readLine_9 fr_RX6_18 (by decide) rfl (fun v9 => ?_)
  refine sm_callSI (pc := 12) [.int v9] (fun lq rq Sq hq => m_X6_numbersOf Z lq v9 S5 hq) dX6_readLine_12 mi_X6_numbersOf ml_RX6_36 ⟨Nat.le_of_ble_eq_true rfl, Nat.le_of_ble_eq_true rfl, rfl, rfl⟩ rfl (Nat.le_of_ble_eq_true rfl) rfl (fun r12 S12 => ?_)
  refine sm_istore_n (pc := 15) (lv' := [(1, .int r12), (0, .ref c)]) dX6_readLine_15 rfl (by decide) rfl ?_
  refine sm_iload_n (pc := 16) dX6_readLine_16 rfl 0 rfl ?_
  refine sm_if_ne 22 (pc := 17) dX6_readLine_17 rfl ?_ ?_
  · refine sm_aload_n (pc := 22) dX6_readLine_22 rfl 1 rfl ?_
    refine sm_dup (pc := 23) dX6_readLine_23 rfl ?_
    refine sm_getI (pc := 24) dX6_readLine_24 fr_RX6_15 (by decide) rfl (fun v24 => ?_)
    refine sm_iconst (pc := 27) (1 : Int32) dX6_readLine_27 (by decide) ?_
    refine sm_iadd (pc := 28) dX6_readLine_28 ?_
    refine sm_putI (pc := 29) dX6_readLine_29 fw_RX6_15 (by decide) rfl (fun S29 => ?_)
    refine sm_iconst (pc := 32) (0 : Int32) dX6_readLine_32 (by decide) ?_
    refine sm_istore_n (pc := 33) (lv' := [(2, .int (0 : Int32)), (1, .int r12), (0, .ref c)]) dX6_readLine_33 rfl (by decide) rfl ?_
    refine sm_sub [2, 1, 0] rfl ?_
    exact sL_X6_readLine_34 Z  6000 c r12 (0 : Int32) S29
  refine sm_iconst (pc := 20) (0 : Int32) dX6_readLine_20 (by decide) ?_
  exact sm_retZ (pc := 21) dX6_readLine_21
set_option maxRecDepth 20000 in
set_option maxHeartbeats 4000000 in
theorem m_X6_readLine (Z : ZT) (l : Launch) (c : Nat) (S : St) {r : Int32} {S' : St} (h : F_X6_readLine c S = some (r, S')) : MetX Z l yX6_readLine cX6_readLine 3 (some .boolean) rm_X6_readLine [.ref c] S (eI r) S' := Sim.met (by decide +kernel) rfl (Nat.le_of_ble_eq_true rfl) (s_X6_readLine Z c S) l h
set_option maxRecDepth 20000 in
set_option maxHeartbeats 4000000 in
theorem sB_X6_placeOfFault_7 (Z : ZT) (rec7 : (Nat → Int32 → St → Option (Int32 × St))) (h7 : ∀ (x0 : Nat) (x1 : Int32)  (S : St), Sim eI Z rm_X6_placeOfFault RX6 cX6_placeOfFault 2 (some .int) 7 [(0, .ref x0), (1, .int x1)] [] S (rec7 x0 x1 S)) (x0 : Nat) (x1 : Int32)  (S : St) : Sim eI Z rm_X6_placeOfFault RX6 cX6_placeOfFault 2 (some .int) 7 [(0, .ref x0), (1, .int x1)] [] S (B_X6_placeOfFault_7 rec7 x0 x1 S) := by
  unfold B_X6_placeOfFault_7
  refine sm_iload_n (pc := 7) dX6_placeOfFault_7 rfl 1 rfl ?_
  refine sm_bipush (pc := 8) (120 : Int32) dX6_placeOfFault_8 (by decide) ?_
  refine sm_icmp_ge 68 (pc := 10) dX6_placeOfFault_10 rfl ?_ ?_
  · refine sm_aload_n (pc := 68) dX6_placeOfFault_68 rfl 0 rfl ?_
    refine sm_getI (pc := 69) dX6_placeOfFault_69 fr_RX6_15 (by decide) rfl (fun v69 => ?_)
    exact sm_retI (pc := 72) dX6_placeOfFault_72
  refine sm_aload_n (pc := 13) dX6_placeOfFault_13 rfl 0 rfl ?_
  refine sm_callVI (pc := 14) [] (fun lq rq Sq hq => m_X6_readLine Z lq x0 S hq) dX6_placeOfFault_14 mi_X6_readLine ml_RX6_28 ⟨Nat.le_of_ble_eq_true rfl, Nat.le_of_ble_eq_true rfl, rfl, rfl⟩ rfl (by decide) rfl (Nat.le_of_ble_eq_true rfl) rfl (fun r14 S14 => ?_)
  refine sm_if_ne 25 (pc := 17) dX6_placeOfFault_17 rfl ?_ ?_
  · refine sm_aload_n (pc := 25) dX6_placeOfFault_25 rfl 0 rfl ?_
    refine sm_getI (pc := 26) dX6_placeOfFault_26 fr_RX6_15 (by decide) rfl (fun v26 => ?_)
    refine sm_aload_n (pc := 29) dX6_placeOfFault_29 rfl 0 rfl ?_
    refine sm_getI (pc := 30) dX6_placeOfFault_30 fr_RX6_9 (by decide) rfl (fun v30 => ?_)
    refine sm_icmp_lt 38 (pc := 33) dX6_placeOfFault_33 rfl ?_ ?_
    · refine sm_aload_n (pc := 38) dX6_placeOfFault_38 rfl 0 rfl ?_
      refine sm_callVI (pc := 39) [] (fun lq rq Sq hq => m_X6_here Z lq x0 S14 hq) dX6_placeOfFault_39 mi_X6_here ml_RX6_32 ⟨Nat.le_of_ble_eq_true rfl, Nat.le_of_ble_eq_true rfl, rfl, rfl⟩ rfl (by decide) rfl (Nat.le_of_ble_eq_true rfl) rfl (fun r39 S39 => ?_)
      refine sm_bipush (pc := 42) (59 : Int32) dX6_placeOfFault_42 (by decide) ?_
      refine sm_icmp_eq 52 (pc := 44) dX6_placeOfFault_44 rfl ?_ ?_
      · refine sm_aload_n (pc := 52) dX6_placeOfFault_52 rfl 0 rfl ?_
        refine sm_dup (pc := 53) dX6_placeOfFault_53 rfl ?_
        refine sm_getI (pc := 54) dX6_placeOfFault_54 fr_RX6_15 (by decide) rfl (fun v54 => ?_)
        refine sm_iconst (pc := 57) (1 : Int32) dX6_placeOfFault_57 (by decide) ?_
        refine sm_iadd (pc := 58) dX6_placeOfFault_58 ?_
        refine sm_putI (pc := 59) dX6_placeOfFault_59 fw_RX6_15 (by decide) rfl (fun S59 => ?_)
        refine sm_iinc (pc := 62) (x1 + 1) (lv' := [(1, .int (x1 + 1)), (0, .ref x0)]) dX6_placeOfFault_62 1 rfl rfl (by decide) rfl ?_
        refine sm_goto 7 (pc := 65) dX6_placeOfFault_65 rfl ?_
        refine sm_sub [1, 0] rfl ?_
        exact h7 x0 (x1 + 1) S59
      refine sm_aload_n (pc := 47) dX6_placeOfFault_47 rfl 0 rfl ?_
      refine sm_getI (pc := 48) dX6_placeOfFault_48 fr_RX6_15 (by decide) rfl (fun v48 => ?_)
      exact sm_retI (pc := 51) dX6_placeOfFault_51
    refine sm_iconst (pc := 36) (-1 : Int32) dX6_placeOfFault_36 (by decide) ?_
    exact sm_retI (pc := 37) dX6_placeOfFault_37
  refine sm_aload_n (pc := 20) dX6_placeOfFault_20 rfl 0 rfl ?_
  refine sm_getI (pc := 21) dX6_placeOfFault_21 fr_RX6_15 (by decide) rfl (fun v21 => ?_)
  exact sm_retI (pc := 24) dX6_placeOfFault_24
set_option maxRecDepth 20000 in
set_option maxHeartbeats 4000000 in
theorem sL_X6_placeOfFault_7 (Z : ZT)  (n : Nat) : ∀ (x0 : Nat) (x1 : Int32)  (S : St), Sim eI Z rm_X6_placeOfFault RX6 cX6_placeOfFault 2 (some .int) 7 [(0, .ref x0), (1, .int x1)] [] S (L_X6_placeOfFault_7  n x0 x1 S) := by
  induction n with
  | zero => intros; exact sm_none
  | succ n ih => intro x0 x1 S; exact sB_X6_placeOfFault_7 Z  (L_X6_placeOfFault_7  n) ih x0 x1 S
set_option maxRecDepth 20000 in
set_option maxHeartbeats 4000000 in
theorem s_X6_placeOfFault (Z : ZT) (c : Nat) (S : St) : Sim eI Z rm_X6_placeOfFault RX6 cX6_placeOfFault 2 (some .int) 0 [(0, .ref c)] [] S (F_X6_placeOfFault c S) := by
  unfold F_X6_placeOfFault
  refine sm_aload_n (pc := 0) dX6_placeOfFault_0 rfl 0 rfl ?_
  refine sm_iconst (pc := 1) (0 : Int32) dX6_placeOfFault_1 (by decide) ?_
  refine sm_putI (pc := 2) dX6_placeOfFault_2 fw_RX6_15 (by decide) rfl (fun S2 => ?_)
  refine sm_iconst (pc := 5) (0 : Int32) dX6_placeOfFault_5 (by decide) ?_
  refine sm_istore_n (pc := 6) (lv' := [(1, .int (0 : Int32)), (0, .ref c)]) dX6_placeOfFault_6 rfl (by decide) rfl ?_
  refine sm_sub [1, 0] rfl ?_
  exact sL_X6_placeOfFault_7 Z  6000 c (0 : Int32) S2
set_option maxRecDepth 20000 in
set_option maxHeartbeats 4000000 in
theorem m_X6_placeOfFault (Z : ZT) (l : Launch) (c : Nat) (S : St) {r : Int32} {S' : St} (h : F_X6_placeOfFault c S = some (r, S')) : MetX Z l yX6_placeOfFault cX6_placeOfFault 2 (some .int) rm_X6_placeOfFault [.ref c] S (eI r) S' := Sim.met (by decide +kernel) rfl (Nat.le_of_ble_eq_true rfl) (s_X6_placeOfFault Z c S) l h
set_option maxRecDepth 20000 in
set_option maxHeartbeats 4000000 in
theorem s_X7_isDay (Z : ZT) (a1 : Int32) (S : St) : Sim eI Z rm_X7_isDay RX7 cX7_isDay 1 (some .boolean) 0 [(0, .int a1)] [] S (F_X7_isDay a1 S) := by
  unfold F_X7_isDay
  refine sm_iload_n (pc := 0) dX7_isDay_0 rfl 0 rfl ?_
  refine sm_iconst (pc := 1) (0 : Int32) dX7_isDay_1 (by decide) ?_
  refine sm_ldc (pc := 2) (36524 : Int32) dX7_isDay_2 kc_RX7_97 ?_
  refine sm_callSI (pc := 4) [.int a1, .int (0 : Int32), .int (36524 : Int32)] (fun lq rq Sq hq => m_X7_isWithin Z lq a1 (0 : Int32) (36524 : Int32) S hq) dX7_isDay_4 mi_X7_isWithin ml_RX7_67 ⟨Nat.le_of_ble_eq_true rfl, Nat.le_of_ble_eq_true rfl, rfl, rfl⟩ rfl (Nat.le_of_ble_eq_true rfl) rfl (fun r4 S4 => ?_)
  exact sm_retZ (pc := 7) dX7_isDay_7
set_option maxRecDepth 20000 in
set_option maxHeartbeats 4000000 in
theorem m_X7_isDay (Z : ZT) (l : Launch) (a1 : Int32) (S : St) {r : Int32} {S' : St} (h : F_X7_isDay a1 S = some (r, S')) : MetX Z l yX7_isDay cX7_isDay 1 (some .boolean) rm_X7_isDay [.int a1] S (eI r) S' := Sim.met (by decide +kernel) rfl (Nat.le_of_ble_eq_true rfl) (s_X7_isDay Z a1 S) l h
set_option maxRecDepth 20000 in
set_option maxHeartbeats 4000000 in
theorem sJ_X7_date_83 (Z : ZT)   (t0 : Int32) (S : St) : Sim eI Z rm_X7_date RX7 cX7_date 4 (some .int) 83 [] [.int t0] S (J_X7_date_83  t0 S) := by
  unfold J_X7_date_83
  exact sm_retI (pc := 83) dX7_date_83
set_option maxRecDepth 20000 in
set_option maxHeartbeats 4000000 in
theorem s_X7_date (Z : ZT) (c : Nat) (a1 : Int32) (a2 : Int32) (S : St) : Sim eI Z rm_X7_date RX7 cX7_date 4 (some .int) 0 [(0, .ref c), (1, .int a1), (2, .int a2)] [] S (F_X7_date c a1 a2 S) := by
  unfold F_X7_date
  refine sm_iload_n (pc := 0) dX7_date_0 rfl 1 rfl ?_
  refine sm_callSI (pc := 1) [.int a1] (fun lq rq Sq hq => m_X7_isDay Z lq a1 S hq) dX7_date_1 mi_X7_isDay ml_RX7_54 ⟨Nat.le_of_ble_eq_true rfl, Nat.le_of_ble_eq_true rfl, rfl, rfl⟩ rfl (Nat.le_of_ble_eq_true rfl) rfl (fun r1 S1 => ?_)
  refine sm_if_ne 9 (pc := 4) dX7_date_4 rfl ?_ ?_
  · refine sm_iload_n (pc := 9) dX7_date_9 rfl 1 rfl ?_
    refine sm_callSI (pc := 10) [.int a1] (fun lq rq Sq hq => m_X2_monthOf Z lq a1 S1 hq) dX7_date_10 mi_X2_monthOf ml_RX7_58 ⟨Nat.le_of_ble_eq_true rfl, Nat.le_of_ble_eq_true rfl, rfl, rfl⟩ rfl (Nat.le_of_ble_eq_true rfl) rfl (fun r10 S10 => ?_)
    refine sm_istore_n (pc := 13) (lv' := [(3, .int r10), (0, .ref c), (1, .int a1), (2, .int a2)]) dX7_date_13 rfl (by decide) rfl ?_
    refine sm_iload_n (pc := 14) dX7_date_14 rfl 3 rfl ?_
    refine sm_tswk (pc := 15) 84 [44, 53, 60, 69] [0, 1, 2, 3] dX7_date_15 rfl (by decide) (by decide) (by decide) rfl ⟨?_, ?_, ?_, ?_, trivial⟩ ?_
    · refine sm_sipush (pc := 44) (2000 : Int32) dX7_date_44 (by decide) ?_
      refine sm_iload_n (pc := 47) dX7_date_47 rfl 0 rfl ?_
      refine sm_bipush (pc := 48) (12 : Int32) dX7_date_48 (by decide) ?_
      refine sm_idivc (pc := 50) dX7_date_50 (by decide) ?_
      refine sm_iadd (pc := 51) dX7_date_51 ?_
      exact sm_retI (pc := 52) dX7_date_52
    · refine sm_iconst (pc := 53) (1 : Int32) dX7_date_53 (by decide) ?_
      refine sm_iload_n (pc := 54) dX7_date_54 rfl 0 rfl ?_
      refine sm_bipush (pc := 55) (12 : Int32) dX7_date_55 (by decide) ?_
      refine sm_iremc (pc := 57) dX7_date_57 (by decide) ?_
      refine sm_iadd (pc := 58) dX7_date_58 ?_
      exact sm_retI (pc := 59) dX7_date_59
    · refine sm_iconst (pc := 60) (1 : Int32) dX7_date_60 (by decide) ?_
      refine sm_iload_n (pc := 61) dX7_date_61 rfl 2 rfl ?_
      refine sm_iadd (pc := 62) dX7_date_62 ?_
      refine sm_iload_n (pc := 63) dX7_date_63 rfl 0 rfl ?_
      refine sm_callSI (pc := 64) [.int r10] (fun lq rq Sq hq => m_X2_firstOf Z lq r10 S10 hq) dX7_date_64 mi_X2_firstOf ml_RX7_64 ⟨Nat.le_of_ble_eq_true rfl, Nat.le_of_ble_eq_true rfl, rfl, rfl⟩ rfl (Nat.le_of_ble_eq_true rfl) rfl (fun r64 S64 => ?_)
      refine sm_isub (pc := 67) dX7_date_67 ?_
      exact sm_retI (pc := 68) dX7_date_68
    · refine sm_iload_n (pc := 69) dX7_date_69 rfl 0 rfl ?_
      refine sm_bipush (pc := 70) (12 : Int32) dX7_date_70 (by decide) ?_
      refine sm_idivc (pc := 72) dX7_date_72 (by decide) ?_
      refine sm_iconst (pc := 73) (4 : Int32) dX7_date_73 (by decide) ?_
      refine sm_iremc (pc := 74) dX7_date_74 (by decide) ?_
      refine sm_if_ne 82 (pc := 75) dX7_date_75 rfl ?_ ?_
      · refine sm_iconst (pc := 82) (0 : Int32) dX7_date_82 (by decide) ?_
        refine sm_sub [] rfl ?_
        exact sJ_X7_date_83 Z  (0 : Int32) S10
      refine sm_iconst (pc := 78) (1 : Int32) dX7_date_78 (by decide) ?_
      refine sm_goto 83 (pc := 79) dX7_date_79 rfl ?_
      refine sm_sub [] rfl ?_
      exact sJ_X7_date_83 Z  (1 : Int32) S10
    refine sm_iconst (pc := 84) (-1 : Int32) dX7_date_84 (by decide) ?_
    exact sm_retI (pc := 85) dX7_date_85
  refine sm_iconst (pc := 7) (-1 : Int32) dX7_date_7 (by decide) ?_
  exact sm_retI (pc := 8) dX7_date_8
set_option maxRecDepth 20000 in
set_option maxHeartbeats 4000000 in
theorem m_X7_date (Z : ZT) (l : Launch) (c : Nat) (a1 : Int32) (a2 : Int32) (S : St) {r : Int32} {S' : St} (h : F_X7_date c a1 a2 S = some (r, S')) : MetX Z l yX7_date cX7_date 4 (some .int) rm_X7_date [.ref c, .int a1, .int a2] S (eI r) S' := Sim.met (by decide +kernel) rfl (Nat.le_of_ble_eq_true rfl) (s_X7_date Z c a1 a2 S) l h
set_option maxRecDepth 20000 in
set_option maxHeartbeats 4000000 in
theorem sJ_X7_dayOf_23 (Z : ZT)    (S : St) : Sim eI Z rm_X7_dayOf RX7 cX7_dayOf 5 (some .int) 23 [] [] S (J_X7_dayOf_23  S) := by
  unfold J_X7_dayOf_23
  refine sm_iconst (pc := 23) (-1 : Int32) dX7_dayOf_23 (by decide) ?_
  exact sm_retI (pc := 24) dX7_dayOf_24
set_option maxRecDepth 20000 in
set_option maxHeartbeats 4000000 in
theorem sJ_X7_dayOf_65 (Z : ZT)   (t0 : Int32) (S : St) : Sim eI Z rm_X7_dayOf RX7 cX7_dayOf 5 (some .int) 65 [] [.int t0] S (J_X7_dayOf_65  t0 S) := by
  unfold J_X7_dayOf_65
  exact sm_retI (pc := 65) dX7_dayOf_65
set_option maxRecDepth 20000 in
set_option maxHeartbeats 4000000 in
theorem s_X7_dayOf (Z : ZT) (c : Nat) (a1 : Int32) (a2 : Int32) (a3 : Int32) (S : St) : Sim eI Z rm_X7_dayOf RX7 cX7_dayOf 5 (some .int) 0 [(0, .ref c), (1, .int a1), (2, .int a2), (3, .int a3)] [] S (F_X7_dayOf c a1 a2 a3 S) := by
  unfold F_X7_dayOf
  refine sm_iload_n (pc := 0) dX7_dayOf_0 rfl 1 rfl ?_
  refine sm_sipush (pc := 1) (2000 : Int32) dX7_dayOf_1 (by decide) ?_
  refine sm_sipush (pc := 4) (2099 : Int32) dX7_dayOf_4 (by decide) ?_
  refine sm_callSI (pc := 7) [.int a1, .int (2000 : Int32), .int (2099 : Int32)] (fun lq rq Sq hq => m_X7_isWithin Z lq a1 (2000 : Int32) (2099 : Int32) S hq) dX7_dayOf_7 mi_X7_isWithin ml_RX7_67 ⟨Nat.le_of_ble_eq_true rfl, Nat.le_of_ble_eq_true rfl, rfl, rfl⟩ rfl (Nat.le_of_ble_eq_true rfl) rfl (fun r7 S7 => ?_)
  refine sm_if_eq 23 (pc := 10) dX7_dayOf_10 rfl ?_ ?_
  · refine sm_sub [] rfl ?_
    exact sJ_X7_dayOf_23 Z  S7
  refine sm_iload_n (pc := 13) dX7_dayOf_13 rfl 2 rfl ?_
  refine sm_iconst (pc := 14) (1 : Int32) dX7_dayOf_14 (by decide) ?_
  refine sm_bipush (pc := 15) (12 : Int32) dX7_dayOf_15 (by decide) ?_
  refine sm_callSI (pc := 17) [.int a2, .int (1 : Int32), .int (12 : Int32)] (fun lq rq Sq hq => m_X7_isWithin Z lq a2 (1 : Int32) (12 : Int32) S7 hq) dX7_dayOf_17 mi_X7_isWithin ml_RX7_67 ⟨Nat.le_of_ble_eq_true rfl, Nat.le_of_ble_eq_true rfl, rfl, rfl⟩ rfl (Nat.le_of_ble_eq_true rfl) rfl (fun r17 S17 => ?_)
  refine sm_if_ne 25 (pc := 20) dX7_dayOf_20 rfl ?_ ?_
  · refine sm_iload_n (pc := 25) dX7_dayOf_25 rfl 1 rfl ?_
    refine sm_sipush (pc := 26) (2000 : Int32) dX7_dayOf_26 (by decide) ?_
    refine sm_isub (pc := 29) dX7_dayOf_29 ?_
    refine sm_bipush (pc := 30) (12 : Int32) dX7_dayOf_30 (by decide) ?_
    refine sm_imul (pc := 32) dX7_dayOf_32 ?_
    refine sm_iload_n (pc := 33) dX7_dayOf_33 rfl 2 rfl ?_
    refine sm_iadd (pc := 34) dX7_dayOf_34 ?_
    refine sm_iconst (pc := 35) (1 : Int32) dX7_dayOf_35 (by decide) ?_
    refine sm_isub (pc := 36) dX7_dayOf_36 ?_
    refine sm_bdI (fun v37 => ?_)
    refine sm_istore (pc := 37) (lv' := [(4, .int v37), (0, .ref c), (1, .int a1), (2, .int a2), (3, .int a3)]) dX7_dayOf_37 (by decide) rfl ?_
    refine sm_iload_n (pc := 39) dX7_dayOf_39 rfl 4 rfl ?_
    refine sm_iconst (pc := 40) (1 : Int32) dX7_dayOf_40 (by decide) ?_
    refine sm_iload (pc := 41) dX7_dayOf_41 0 rfl ?_
    refine sm_callSI (pc := 43) [.int v37] (fun lq rq Sq hq => m_X2_lengthOf Z lq v37 S17 hq) dX7_dayOf_43 mi_X2_lengthOf ml_RX7_71 ⟨Nat.le_of_ble_eq_true rfl, Nat.le_of_ble_eq_true rfl, rfl, rfl⟩ rfl (Nat.le_of_ble_eq_true rfl) rfl (fun r43 S43 => ?_)
    refine sm_callSI (pc := 46) [.int a3, .int (1 : Int32), .int r43] (fun lq rq Sq hq => m_X7_isWithin Z lq a3 (1 : Int32) r43 S43 hq) dX7_dayOf_46 mi_X7_isWithin ml_RX7_67 ⟨Nat.le_of_ble_eq_true rfl, Nat.le_of_ble_eq_true rfl, rfl, rfl⟩ rfl (Nat.le_of_ble_eq_true rfl) rfl (fun r46 S46 => ?_)
    refine sm_if_eq 64 (pc := 49) dX7_dayOf_49 rfl ?_ ?_
    · refine sm_iconst (pc := 64) (-1 : Int32) dX7_dayOf_64 (by decide) ?_
      refine sm_sub [] rfl ?_
      exact sJ_X7_dayOf_65 Z  (-1 : Int32) S46
    refine sm_iload (pc := 52) dX7_dayOf_52 0 rfl ?_
    refine sm_callSI (pc := 54) [.int v37] (fun lq rq Sq hq => m_X2_firstOf Z lq v37 S46 hq) dX7_dayOf_54 mi_X2_firstOf ml_RX7_64 ⟨Nat.le_of_ble_eq_true rfl, Nat.le_of_ble_eq_true rfl, rfl, rfl⟩ rfl (Nat.le_of_ble_eq_true rfl) rfl (fun r54 S54 => ?_)
    refine sm_iload_n (pc := 57) dX7_dayOf_57 rfl 4 rfl ?_
    refine sm_iadd (pc := 58) dX7_dayOf_58 ?_
    refine sm_iconst (pc := 59) (1 : Int32) dX7_dayOf_59 (by decide) ?_
    refine sm_isub (pc := 60) dX7_dayOf_60 ?_
    refine sm_goto 65 (pc := 61) dX7_dayOf_61 rfl ?_
    refine sm_sub [] rfl ?_
    exact sJ_X7_dayOf_65 Z  ((r54 + a3) - (1 : Int32)) S54
  refine sm_sub [] rfl ?_
  exact sJ_X7_dayOf_23 Z  S17
set_option maxRecDepth 20000 in
set_option maxHeartbeats 4000000 in
theorem m_X7_dayOf (Z : ZT) (l : Launch) (c : Nat) (a1 : Int32) (a2 : Int32) (a3 : Int32) (S : St) {r : Int32} {S' : St} (h : F_X7_dayOf c a1 a2 a3 S = some (r, S')) : MetX Z l yX7_dayOf cX7_dayOf 5 (some .int) rm_X7_dayOf [.ref c, .int a1, .int a2, .int a3] S (eI r) S' := Sim.met (by decide +kernel) rfl (Nat.le_of_ble_eq_true rfl) (s_X7_dayOf Z c a1 a2 a3 S) l h
set_option maxRecDepth 20000 in
set_option maxHeartbeats 4000000 in
theorem sJ_X7_interest_31 (Z : ZT)    (S : St) : Sim eL Z rm_X7_interest RX7 cX7_interest 7 (some .long) 31 [] [] S (J_X7_interest_31  S) := by
  unfold J_X7_interest_31
  refine sm_ldc2 (pc := 31) (-1 : Int64) dX7_interest_31 kc_RX7_79 ?_
  exact sm_retL (pc := 34) dX7_interest_34
set_option maxRecDepth 20000 in
set_option maxHeartbeats 4000000 in
theorem sJ_X7_interest_58 (Z : ZT)    (S : St) : Sim eL Z rm_X7_interest RX7 cX7_interest 7 (some .long) 58 [] [] S (J_X7_interest_58  S) := by
  unfold J_X7_interest_58
  refine sm_ldc2 (pc := 58) (-1 : Int64) dX7_interest_58 kc_RX7_79 ?_
  exact sm_retL (pc := 61) dX7_interest_61
set_option maxRecDepth 20000 in
set_option maxHeartbeats 4000000 in
theorem s_X7_interest (Z : ZT) (c : Nat) (a1 : Int64) (a2 : Int32) (a3 : Int32) (a4 : Int32) (a5 : Int32) (S : St) : Sim eL Z rm_X7_interest RX7 cX7_interest 7 (some .long) 0 [(0, .ref c), (1, .long a1), (3, .int a2), (4, .int a3), (5, .int a4), (6, .int a5)] [] S (F_X7_interest c a1 a2 a3 a4 a5 S) := by
  unfold F_X7_interest
  refine sm_lload_n (pc := 0) dX7_interest_0 rfl 1 rfl ?_
  refine sm_lconst (pc := 1) (0 : Int64) dX7_interest_1 (by decide) ?_
  refine sm_lcmp_lt 31 (pc := 2) dX7_interest_2 dX7_interest_3 rfl ?_ ?_
  · refine sm_sub [] rfl ?_
    exact sJ_X7_interest_31 Z  S
  refine sm_lload_n (pc := 6) dX7_interest_6 rfl 1 rfl ?_
  refine sm_ldc2 (pc := 7) (100000000 : Int64) dX7_interest_7 kc_RX7_74 ?_
  refine sm_lcmp_gt 31 (pc := 10) dX7_interest_10 dX7_interest_11 rfl ?_ ?_
  · refine sm_sub [] rfl ?_
    exact sJ_X7_interest_31 Z  S
  refine sm_iload_n (pc := 14) dX7_interest_14 rfl 2 rfl ?_
  refine sm_callSI (pc := 15) [.int a2] (fun lq rq Sq hq => m_X7_isRate Z lq a2 S hq) dX7_interest_15 mi_X7_isRate ml_RX7_76 ⟨Nat.le_of_ble_eq_true rfl, Nat.le_of_ble_eq_true rfl, rfl, rfl⟩ rfl (Nat.le_of_ble_eq_true rfl) rfl (fun r15 S15 => ?_)
  refine sm_if_eq 31 (pc := 18) dX7_interest_18 rfl ?_ ?_
  · refine sm_sub [] rfl ?_
    exact sJ_X7_interest_31 Z  S15
  refine sm_iload (pc := 21) dX7_interest_21 3 rfl ?_
  refine sm_iconst (pc := 23) (0 : Int32) dX7_interest_23 (by decide) ?_
  refine sm_iconst (pc := 24) (3 : Int32) dX7_interest_24 (by decide) ?_
  refine sm_callSI (pc := 25) [.int a3, .int (0 : Int32), .int (3 : Int32)] (fun lq rq Sq hq => m_X7_isWithin Z lq a3 (0 : Int32) (3 : Int32) S15 hq) dX7_interest_25 mi_X7_isWithin ml_RX7_67 ⟨Nat.le_of_ble_eq_true rfl, Nat.le_of_ble_eq_true rfl, rfl, rfl⟩ rfl (Nat.le_of_ble_eq_true rfl) rfl (fun r25 S25 => ?_)
  refine sm_if_ne 35 (pc := 28) dX7_interest_28 rfl ?_ ?_
  · refine sm_iload (pc := 35) dX7_interest_35 4 rfl ?_
    refine sm_callSI (pc := 37) [.int a4] (fun lq rq Sq hq => m_X7_isDay Z lq a4 S25 hq) dX7_interest_37 mi_X7_isDay ml_RX7_54 ⟨Nat.le_of_ble_eq_true rfl, Nat.le_of_ble_eq_true rfl, rfl, rfl⟩ rfl (Nat.le_of_ble_eq_true rfl) rfl (fun r37 S37 => ?_)
    refine sm_if_eq 58 (pc := 40) dX7_interest_40 rfl ?_ ?_
    · refine sm_sub [] rfl ?_
      exact sJ_X7_interest_58 Z  S37
    refine sm_iload (pc := 43) dX7_interest_43 5 rfl ?_
    refine sm_callSI (pc := 45) [.int a5] (fun lq rq Sq hq => m_X7_isDay Z lq a5 S37 hq) dX7_interest_45 mi_X7_isDay ml_RX7_54 ⟨Nat.le_of_ble_eq_true rfl, Nat.le_of_ble_eq_true rfl, rfl, rfl⟩ rfl (Nat.le_of_ble_eq_true rfl) rfl (fun r45 S45 => ?_)
    refine sm_if_eq 58 (pc := 48) dX7_interest_48 rfl ?_ ?_
    · refine sm_sub [] rfl ?_
      exact sJ_X7_interest_58 Z  S45
    refine sm_iload (pc := 51) dX7_interest_51 5 rfl ?_
    refine sm_iload (pc := 53) dX7_interest_53 4 rfl ?_
    refine sm_icmp_ge 62 (pc := 55) dX7_interest_55 rfl ?_ ?_
    · refine sm_lload_n (pc := 62) dX7_interest_62 rfl 1 rfl ?_
      refine sm_iload_n (pc := 63) dX7_interest_63 rfl 2 rfl ?_
      refine sm_i2l (pc := 64) dX7_interest_64 ?_
      refine sm_lmul (pc := 65) dX7_interest_65 ?_
      refine sm_iload (pc := 66) dX7_interest_66 3 rfl ?_
      refine sm_iload (pc := 68) dX7_interest_68 3 rfl ?_
      refine sm_iload (pc := 70) dX7_interest_70 4 rfl ?_
      refine sm_iload (pc := 72) dX7_interest_72 5 rfl ?_
      refine sm_callSL (pc := 74) [.int a3, .int a4, .int a5] (fun lq rq Sq hq => m_X2_partsBetween Z lq a3 a4 a5 S45 hq) dX7_interest_74 mi_X2_partsBetween ml_RX7_81 ⟨Nat.le_of_ble_eq_true rfl, Nat.le_of_ble_eq_true rfl, rfl, rfl⟩ rfl (Nat.le_of_ble_eq_true rfl) rfl (fun r74 S74 => ?_)
      refine sm_callSL (pc := 77) [.long (a1 * (Int32.toInt64 a2)), .int a3, .long r74] (fun lq rq Sq hq => m_X2_cents Z lq (a1 * (Int32.toInt64 a2)) a3 r74 S74 hq) dX7_interest_77 mi_X2_cents ml_RX7_85 ⟨Nat.le_of_ble_eq_true rfl, Nat.le_of_ble_eq_true rfl, rfl, rfl⟩ rfl (Nat.le_of_ble_eq_true rfl) rfl (fun r77 S77 => ?_)
      exact sm_retL (pc := 80) dX7_interest_80
    refine sm_sub [] rfl ?_
    exact sJ_X7_interest_58 Z  S45
  refine sm_sub [] rfl ?_
  exact sJ_X7_interest_31 Z  S25
set_option maxRecDepth 20000 in
set_option maxHeartbeats 4000000 in
theorem m_X7_interest (Z : ZT) (l : Launch) (c : Nat) (a1 : Int64) (a2 : Int32) (a3 : Int32) (a4 : Int32) (a5 : Int32) (S : St) {r : Int64} {S' : St} (h : F_X7_interest c a1 a2 a3 a4 a5 S = some (r, S')) : MetX Z l yX7_interest cX7_interest 7 (some .long) rm_X7_interest [.ref c, .long a1, .int a2, .int a3, .int a4, .int a5] S (eL r) S' := Sim.met (by decide +kernel) rfl (Nat.le_of_ble_eq_true rfl) (s_X7_interest Z c a1 a2 a3 a4 a5 S) l h
set_option maxRecDepth 20000 in
set_option maxHeartbeats 4000000 in
theorem s_X7_loan (Z : ZT) (c : Nat) (a1 : Int64) (a2 : Int32) (a3 : Int32) (a4 : Int32) (S : St) : Sim eI Z rm_X7_loan RX7 cX7_loan 6 (some .int) 0 [(0, .ref c), (1, .long a1), (3, .int a2), (4, .int a3), (5, .int a4)] [] S (F_X7_loan c a1 a2 a3 a4 S) := by
  unfold F_X7_loan
  refine sm_aload_n (pc := 0) dX7_loan_0 rfl 0 rfl ?_
  refine sm_getR (pc := 1) dX7_loan_1 fr_RX7_10 (by decide) rfl (fun v1 => ?_)
  refine sm_lload_n (pc := 4) dX7_loan_4 rfl 1 rfl ?_
  refine sm_iload_n (pc := 5) dX7_loan_5 rfl 2 rfl ?_
  refine sm_iload (pc := 6) dX7_loan_6 3 rfl ?_
  refine sm_iload (pc := 8) dX7_loan_8 4 rfl ?_
  refine sm_sipush (pc := 10) (1000 : Int32) dX7_loan_10 (by decide) ?_
  refine sm_idivc (pc := 13) dX7_loan_13 (by decide) ?_
  refine sm_iload (pc := 14) dX7_loan_14 4 rfl ?_
  refine sm_bipush (pc := 16) (100 : Int32) dX7_loan_16 (by decide) ?_
  refine sm_idivc (pc := 18) dX7_loan_18 (by decide) ?_
  refine sm_bipush (pc := 19) (10 : Int32) dX7_loan_19 (by decide) ?_
  refine sm_iremc (pc := 21) dX7_loan_21 (by decide) ?_
  refine sm_iload (pc := 22) dX7_loan_22 4 rfl ?_
  refine sm_bipush (pc := 24) (100 : Int32) dX7_loan_24 (by decide) ?_
  refine sm_iremc (pc := 26) dX7_loan_26 (by decide) ?_
  refine sm_callVI (pc := 27) [.long a1, .int a2, .int a3, .int (a4 / (1000 : Int32)), .int ((a4 / (100 : Int32)) - (a4 / (100 : Int32)) / (10 : Int32) * (10 : Int32)), .int (a4 - a4 / (100 : Int32) * (100 : Int32))] (fun lq rq Sq hq => m_X1_lend Z lq v1 a1 a2 a3 (a4 / (1000 : Int32)) ((a4 / (100 : Int32)) - (a4 / (100 : Int32)) / (10 : Int32) * (10 : Int32)) (a4 - a4 / (100 : Int32) * (100 : Int32)) S hq) dX7_loan_27 mi_X1_lend ml_RX7_89 ⟨Nat.le_of_ble_eq_true rfl, Nat.le_of_ble_eq_true rfl, rfl, rfl⟩ rfl (by decide) rfl (Nat.le_of_ble_eq_true rfl) rfl (fun r27 S27 => ?_)
  exact sm_retI (pc := 30) dX7_loan_30
set_option maxRecDepth 20000 in
set_option maxHeartbeats 4000000 in
theorem m_X7_loan (Z : ZT) (l : Launch) (c : Nat) (a1 : Int64) (a2 : Int32) (a3 : Int32) (a4 : Int32) (S : St) {r : Int32} {S' : St} (h : F_X7_loan c a1 a2 a3 a4 S = some (r, S')) : MetX Z l yX7_loan cX7_loan 6 (some .int) rm_X7_loan [.ref c, .long a1, .int a2, .int a3, .int a4] S (eI r) S' := Sim.met (by decide +kernel) rfl (Nat.le_of_ble_eq_true rfl) (s_X7_loan Z c a1 a2 a3 a4 S) l h
set_option maxRecDepth 20000 in
set_option maxHeartbeats 4000000 in
theorem sJ_X7_days_40 (Z : ZT)   (t0 : Int32) (S : St) : Sim eI Z rm_X7_days RX7 cX7_days 2 (some .int) 40 [] [.int t0] S (J_X7_days_40  t0 S) := by
  unfold J_X7_days_40
  exact sm_retI (pc := 40) dX7_days_40
set_option maxRecDepth 20000 in
set_option maxHeartbeats 4000000 in
theorem s_X7_days (Z : ZT) (c : Nat) (a1 : Int32) (S : St) : Sim eI Z rm_X7_days RX7 cX7_days 2 (some .int) 0 [(0, .ref c), (1, .int a1)] [] S (F_X7_days c a1 S) := by
  unfold F_X7_days
  refine sm_iload_n (pc := 0) dX7_days_0 rfl 1 rfl ?_
  refine sm_iconst (pc := 1) (1 : Int32) dX7_days_1 (by decide) ?_
  refine sm_sipush (pc := 2) (4000 : Int32) dX7_days_2 (by decide) ?_
  refine sm_callSI (pc := 5) [.int a1, .int (1 : Int32), .int (4000 : Int32)] (fun lq rq Sq hq => m_X7_isWithin Z lq a1 (1 : Int32) (4000 : Int32) S hq) dX7_days_5 mi_X7_isWithin ml_RX7_67 ⟨Nat.le_of_ble_eq_true rfl, Nat.le_of_ble_eq_true rfl, rfl, rfl⟩ rfl (Nat.le_of_ble_eq_true rfl) rfl (fun r5 S5 => ?_)
  refine sm_if_ne 13 (pc := 8) dX7_days_8 rfl ?_ ?_
  · refine sm_aload_n (pc := 13) dX7_days_13 rfl 0 rfl ?_
    refine sm_getR (pc := 14) dX7_days_14 fr_RX7_10 (by decide) rfl (fun v14 => ?_)
    refine sm_getI (pc := 17) dX7_days_17 fr_RX7_93 (by decide) rfl (fun v17 => ?_)
    refine sm_iload_n (pc := 20) dX7_days_20 rfl 1 rfl ?_
    refine sm_iadd (pc := 21) dX7_days_21 ?_
    refine sm_ldc (pc := 22) (36524 : Int32) dX7_days_22 kc_RX7_97 ?_
    refine sm_icmp_le 32 (pc := 24) dX7_days_24 rfl ?_ ?_
    · refine sm_aload_n (pc := 32) dX7_days_32 rfl 0 rfl ?_
      refine sm_getR (pc := 33) dX7_days_33 fr_RX7_10 (by decide) rfl (fun v33 => ?_)
      refine sm_iload_n (pc := 36) dX7_days_36 rfl 1 rfl ?_
      refine sm_callVI (pc := 37) [.int a1] (fun lq rq Sq hq => m_X1_passDays Z lq v33 a1 S5 hq) dX7_days_37 mi_X1_passDays ml_RX7_98 ⟨Nat.le_of_ble_eq_true rfl, Nat.le_of_ble_eq_true rfl, rfl, rfl⟩ rfl (by decide) rfl (Nat.le_of_ble_eq_true rfl) rfl (fun r37 S37 => ?_)
      refine sm_sub [] rfl ?_
      exact sJ_X7_days_40 Z  r37 S37
    refine sm_bipush (pc := 27) (-5 : Int32) dX7_days_27 (by decide) ?_
    refine sm_goto 40 (pc := 29) dX7_days_29 rfl ?_
    refine sm_sub [] rfl ?_
    exact sJ_X7_days_40 Z  (-5 : Int32) S5
  refine sm_iconst (pc := 11) (-1 : Int32) dX7_days_11 (by decide) ?_
  exact sm_retI (pc := 12) dX7_days_12
set_option maxRecDepth 20000 in
set_option maxHeartbeats 4000000 in
theorem m_X7_days (Z : ZT) (l : Launch) (c : Nat) (a1 : Int32) (S : St) {r : Int32} {S' : St} (h : F_X7_days c a1 S = some (r, S')) : MetX Z l yX7_days cX7_days 2 (some .int) rm_X7_days [.ref c, .int a1] S (eI r) S' := Sim.met (by decide +kernel) rfl (Nat.le_of_ble_eq_true rfl) (s_X7_days Z c a1 S) l h
set_option maxRecDepth 20000 in
set_option maxHeartbeats 4000000 in
theorem sJ_X7_isAmount_19 (Z : ZT)   (t0 : Int32) (S : St) : Sim eI Z rm_X7_isAmount RX7 cX7_isAmount 2 (some .boolean) 19 [] [.int t0] S (J_X7_isAmount_19  t0 S) := by
  unfold J_X7_isAmount_19
  exact sm_retZ (pc := 19) dX7_isAmount_19
set_option maxRecDepth 20000 in
set_option maxHeartbeats 4000000 in
theorem sJ_X7_isAmount_18 (Z : ZT)    (S : St) : Sim eI Z rm_X7_isAmount RX7 cX7_isAmount 2 (some .boolean) 18 [] [] S (J_X7_isAmount_18  S) := by
  unfold J_X7_isAmount_18
  refine sm_iconst (pc := 18) (0 : Int32) dX7_isAmount_18 (by decide) ?_
  refine sm_sub [] rfl ?_
  exact sJ_X7_isAmount_19 Z  (0 : Int32) S
set_option maxRecDepth 20000 in
set_option maxHeartbeats 4000000 in
theorem s_X7_isAmount (Z : ZT) (a1 : Int64) (S : St) : Sim eI Z rm_X7_isAmount RX7 cX7_isAmount 2 (some .boolean) 0 [(0, .long a1)] [] S (F_X7_isAmount a1 S) := by
  unfold F_X7_isAmount
  refine sm_lload_n (pc := 0) dX7_isAmount_0 rfl 0 rfl ?_
  refine sm_lconst (pc := 1) (1 : Int64) dX7_isAmount_1 (by decide) ?_
  refine sm_lcmp_lt 18 (pc := 2) dX7_isAmount_2 dX7_isAmount_3 rfl ?_ ?_
  · refine sm_sub [] rfl ?_
    exact sJ_X7_isAmount_18 Z  S
  refine sm_lload_n (pc := 6) dX7_isAmount_6 rfl 0 rfl ?_
  refine sm_ldc2 (pc := 7) (1000000000 : Int64) dX7_isAmount_7 kc_RX7_336 ?_
  refine sm_lcmp_gt 18 (pc := 10) dX7_isAmount_10 dX7_isAmount_11 rfl ?_ ?_
  · refine sm_sub [] rfl ?_
    exact sJ_X7_isAmount_18 Z  S
  refine sm_iconst (pc := 14) (1 : Int32) dX7_isAmount_14 (by decide) ?_
  refine sm_goto 19 (pc := 15) dX7_isAmount_15 rfl ?_
  refine sm_sub [] rfl ?_
  exact sJ_X7_isAmount_19 Z  (1 : Int32) S
set_option maxRecDepth 20000 in
set_option maxHeartbeats 4000000 in
theorem m_X7_isAmount (Z : ZT) (l : Launch) (a1 : Int64) (S : St) {r : Int32} {S' : St} (h : F_X7_isAmount a1 S = some (r, S')) : MetX Z l yX7_isAmount cX7_isAmount 2 (some .boolean) rm_X7_isAmount [.long a1] S (eI r) S' := Sim.met (by decide +kernel) rfl (Nat.le_of_ble_eq_true rfl) (s_X7_isAmount Z a1 S) l h
set_option maxRecDepth 20000 in
set_option maxHeartbeats 4000000 in
theorem sJ_X7_pay_18 (Z : ZT)    (S : St) : Sim eL Z rm_X7_pay RX7 cX7_pay 4 (some .long) 18 [] [] S (J_X7_pay_18  S) := by
  unfold J_X7_pay_18
  refine sm_ldc2 (pc := 18) (-1 : Int64) dX7_pay_18 kc_RX7_79 ?_
  exact sm_retL (pc := 21) dX7_pay_21
set_option maxRecDepth 20000 in
set_option maxHeartbeats 4000000 in
theorem s_X7_pay (Z : ZT) (c : Nat) (a1 : Int32) (a2 : Int64) (S : St) : Sim eL Z rm_X7_pay RX7 cX7_pay 4 (some .long) 0 [(0, .ref c), (1, .int a1), (2, .long a2)] [] S (F_X7_pay c a1 a2 S) := by
  unfold F_X7_pay
  refine sm_aload_n (pc := 0) dX7_pay_0 rfl 0 rfl ?_
  refine sm_getR (pc := 1) dX7_pay_1 fr_RX7_10 (by decide) rfl (fun v1 => ?_)
  refine sm_iload_n (pc := 4) dX7_pay_4 rfl 1 rfl ?_
  refine sm_callVI (pc := 5) [.int a1] (fun lq rq Sq hq => m_X1_has Z lq v1 a1 S hq) dX7_pay_5 mi_X1_has ml_RX7_101 ⟨Nat.le_of_ble_eq_true rfl, Nat.le_of_ble_eq_true rfl, rfl, rfl⟩ rfl (by decide) rfl (Nat.le_of_ble_eq_true rfl) rfl (fun r5 S5 => ?_)
  refine sm_if_eq 18 (pc := 8) dX7_pay_8 rfl ?_ ?_
  · refine sm_sub [] rfl ?_
    exact sJ_X7_pay_18 Z  S5
  refine sm_lload_n (pc := 11) dX7_pay_11 rfl 2 rfl ?_
  refine sm_callSI (pc := 12) [.long a2] (fun lq rq Sq hq => m_X7_isAmount Z lq a2 S5 hq) dX7_pay_12 mi_X7_isAmount ml_RX7_104 ⟨Nat.le_of_ble_eq_true rfl, Nat.le_of_ble_eq_true rfl, rfl, rfl⟩ rfl (Nat.le_of_ble_eq_true rfl) rfl (fun r12 S12 => ?_)
  refine sm_if_ne 22 (pc := 15) dX7_pay_15 rfl ?_ ?_
  · refine sm_aload_n (pc := 22) dX7_pay_22 rfl 0 rfl ?_
    refine sm_getR (pc := 23) dX7_pay_23 fr_RX7_10 (by decide) rfl (fun v23 => ?_)
    refine sm_getR (pc := 26) dX7_pay_26 fr_RX7_108 (by decide) rfl (fun v26 => ?_)
    refine sm_iload_n (pc := 29) dX7_pay_29 rfl 1 rfl ?_
    refine sm_aR (pc := 30) dX7_pay_30 (by decide) (fun v30 => ?_)
    refine sm_lload_n (pc := 31) dX7_pay_31 rfl 2 rfl ?_
    refine sm_callVL (pc := 32) [.long a2] (fun lq rq Sq hq => m_X4_receive Z lq v30 a2 S12 hq) dX7_pay_32 mi_X4_receive ml_RX7_112 ⟨Nat.le_of_ble_eq_true rfl, Nat.le_of_ble_eq_true rfl, rfl, rfl⟩ rfl (by decide) rfl (Nat.le_of_ble_eq_true rfl) rfl (fun r32 S32 => ?_)
    exact sm_retL (pc := 35) dX7_pay_35
  refine sm_sub [] rfl ?_
  exact sJ_X7_pay_18 Z  S12
set_option maxRecDepth 20000 in
set_option maxHeartbeats 4000000 in
theorem m_X7_pay (Z : ZT) (l : Launch) (c : Nat) (a1 : Int32) (a2 : Int64) (S : St) {r : Int64} {S' : St} (h : F_X7_pay c a1 a2 S = some (r, S')) : MetX Z l yX7_pay cX7_pay 4 (some .long) rm_X7_pay [.ref c, .int a1, .long a2] S (eL r) S' := Sim.met (by decide +kernel) rfl (Nat.le_of_ble_eq_true rfl) (s_X7_pay Z c a1 a2 S) l h
set_option maxRecDepth 20000 in
set_option maxHeartbeats 4000000 in
theorem sJ_X7_reset_18 (Z : ZT)    (S : St) : Sim eL Z rm_X7_reset RX7 cX7_reset 4 (some .long) 18 [] [] S (J_X7_reset_18  S) := by
  unfold J_X7_reset_18
  refine sm_ldc2 (pc := 18) (-1 : Int64) dX7_reset_18 kc_RX7_79 ?_
  exact sm_retL (pc := 21) dX7_reset_21
set_option maxRecDepth 20000 in
set_option maxHeartbeats 4000000 in
theorem s_X7_reset (Z : ZT) (c : Nat) (a1 : Int32) (a2 : Int32) (S : St) : Sim eL Z rm_X7_reset RX7 cX7_reset 4 (some .long) 0 [(0, .ref c), (1, .int a1), (2, .int a2)] [] S (F_X7_reset c a1 a2 S) := by
  unfold F_X7_reset
  refine sm_aload_n (pc := 0) dX7_reset_0 rfl 0 rfl ?_
  refine sm_getR (pc := 1) dX7_reset_1 fr_RX7_10 (by decide) rfl (fun v1 => ?_)
  refine sm_iload_n (pc := 4) dX7_reset_4 rfl 1 rfl ?_
  refine sm_callVI (pc := 5) [.int a1] (fun lq rq Sq hq => m_X1_has Z lq v1 a1 S hq) dX7_reset_5 mi_X1_has ml_RX7_101 ⟨Nat.le_of_ble_eq_true rfl, Nat.le_of_ble_eq_true rfl, rfl, rfl⟩ rfl (by decide) rfl (Nat.le_of_ble_eq_true rfl) rfl (fun r5 S5 => ?_)
  refine sm_if_eq 18 (pc := 8) dX7_reset_8 rfl ?_ ?_
  · refine sm_sub [] rfl ?_
    exact sJ_X7_reset_18 Z  S5
  refine sm_iload_n (pc := 11) dX7_reset_11 rfl 2 rfl ?_
  refine sm_callSI (pc := 12) [.int a2] (fun lq rq Sq hq => m_X7_isRate Z lq a2 S5 hq) dX7_reset_12 mi_X7_isRate ml_RX7_76 ⟨Nat.le_of_ble_eq_true rfl, Nat.le_of_ble_eq_true rfl, rfl, rfl⟩ rfl (Nat.le_of_ble_eq_true rfl) rfl (fun r12 S12 => ?_)
  refine sm_if_ne 22 (pc := 15) dX7_reset_15 rfl ?_ ?_
  · refine sm_aload_n (pc := 22) dX7_reset_22 rfl 0 rfl ?_
    refine sm_getR (pc := 23) dX7_reset_23 fr_RX7_10 (by decide) rfl (fun v23 => ?_)
    refine sm_getR (pc := 26) dX7_reset_26 fr_RX7_108 (by decide) rfl (fun v26 => ?_)
    refine sm_iload_n (pc := 29) dX7_reset_29 rfl 1 rfl ?_
    refine sm_aR (pc := 30) dX7_reset_30 (by decide) (fun v30 => ?_)
    refine sm_astore_n (pc := 31) (lv' := [(3, .ref v30), (0, .ref c), (1, .int a1), (2, .int a2)]) dX7_reset_31 rfl (by decide) rfl ?_
    refine sm_aload_n (pc := 32) dX7_reset_32 rfl 0 rfl ?_
    refine sm_iload_n (pc := 33) dX7_reset_33 rfl 3 rfl ?_
    refine sm_putI (pc := 34) dX7_reset_34 fw_RX7_116 (by decide) rfl (fun S34 => ?_)
    refine sm_aload_n (pc := 37) dX7_reset_37 rfl 0 rfl ?_
    refine sm_callVV (pc := 38) [] (fun lq rq Sq hq => m_X4_findLevel Z lq v30 S34 hq) dX7_reset_38 mi_X4_findLevel ml_RX7_119 ⟨Nat.le_of_ble_eq_true rfl, Nat.le_of_ble_eq_true rfl, rfl, rfl⟩ rfl (by decide) rfl (Nat.le_of_ble_eq_true rfl) rfl (fun _ S38 => ?_)
    refine sm_aload_n (pc := 41) dX7_reset_41 rfl 0 rfl ?_
    refine sm_getL (pc := 42) dX7_reset_42 fr_RX7_122 (by decide) rfl (fun v42 => ?_)
    exact sm_retL (pc := 45) dX7_reset_45
  refine sm_sub [] rfl ?_
  exact sJ_X7_reset_18 Z  S12
set_option maxRecDepth 20000 in
set_option maxHeartbeats 4000000 in
theorem m_X7_reset (Z : ZT) (l : Launch) (c : Nat) (a1 : Int32) (a2 : Int32) (S : St) {r : Int64} {S' : St} (h : F_X7_reset c a1 a2 S = some (r, S')) : MetX Z l yX7_reset cX7_reset 4 (some .long) rm_X7_reset [.ref c, .int a1, .int a2] S (eL r) S' := Sim.met (by decide +kernel) rfl (Nat.le_of_ble_eq_true rfl) (s_X7_reset Z c a1 a2 S) l h
set_option maxRecDepth 20000 in
set_option maxHeartbeats 4000000 in
theorem sJ_X7_writeOff_42 (Z : ZT)   (t0 : Int64) (S : St) : Sim eL Z rm_X7_writeOff RX7 cX7_writeOff 3 (some .long) 42 [] [.long t0] S (J_X7_writeOff_42  t0 S) := by
  unfold J_X7_writeOff_42
  exact sm_retL (pc := 42) dX7_writeOff_42
set_option maxRecDepth 20000 in
set_option maxHeartbeats 4000000 in
theorem s_X7_writeOff (Z : ZT) (c : Nat) (a1 : Int32) (S : St) : Sim eL Z rm_X7_writeOff RX7 cX7_writeOff 3 (some .long) 0 [(0, .ref c), (1, .int a1)] [] S (F_X7_writeOff c a1 S) := by
  unfold F_X7_writeOff
  refine sm_aload_n (pc := 0) dX7_writeOff_0 rfl 0 rfl ?_
  refine sm_getR (pc := 1) dX7_writeOff_1 fr_RX7_10 (by decide) rfl (fun v1 => ?_)
  refine sm_iload_n (pc := 4) dX7_writeOff_4 rfl 1 rfl ?_
  refine sm_callVI (pc := 5) [.int a1] (fun lq rq Sq hq => m_X1_has Z lq v1 a1 S hq) dX7_writeOff_5 mi_X1_has ml_RX7_101 ⟨Nat.le_of_ble_eq_true rfl, Nat.le_of_ble_eq_true rfl, rfl, rfl⟩ rfl (by decide) rfl (Nat.le_of_ble_eq_true rfl) rfl (fun r5 S5 => ?_)
  refine sm_if_ne 15 (pc := 8) dX7_writeOff_8 rfl ?_ ?_
  · refine sm_aload_n (pc := 15) dX7_writeOff_15 rfl 0 rfl ?_
    refine sm_getR (pc := 16) dX7_writeOff_16 fr_RX7_10 (by decide) rfl (fun v16 => ?_)
    refine sm_getR (pc := 19) dX7_writeOff_19 fr_RX7_108 (by decide) rfl (fun v19 => ?_)
    refine sm_iload_n (pc := 22) dX7_writeOff_22 rfl 1 rfl ?_
    refine sm_aR (pc := 23) dX7_writeOff_23 (by decide) (fun v23 => ?_)
    refine sm_astore_n (pc := 24) (lv' := [(2, .ref v23), (0, .ref c), (1, .int a1)]) dX7_writeOff_24 rfl (by decide) rfl ?_
    refine sm_aload_n (pc := 25) dX7_writeOff_25 rfl 0 rfl ?_
    refine sm_callVI (pc := 26) [] (fun lq rq Sq hq => m_X4_isSettled Z lq v23 S5 hq) dX7_writeOff_26 mi_X4_isSettled ml_RX7_126 ⟨Nat.le_of_ble_eq_true rfl, Nat.le_of_ble_eq_true rfl, rfl, rfl⟩ rfl (by decide) rfl (Nat.le_of_ble_eq_true rfl) rfl (fun r26 S26 => ?_)
    refine sm_if_eq 38 (pc := 29) dX7_writeOff_29 rfl ?_ ?_
    · refine sm_aload_n (pc := 38) dX7_writeOff_38 rfl 0 rfl ?_
      refine sm_callVL (pc := 39) [] (fun lq rq Sq hq => m_X4_giveUp Z lq v23 S26 hq) dX7_writeOff_39 mi_X4_giveUp ml_RX7_132 ⟨Nat.le_of_ble_eq_true rfl, Nat.le_of_ble_eq_true rfl, rfl, rfl⟩ rfl (by decide) rfl (Nat.le_of_ble_eq_true rfl) rfl (fun r39 S39 => ?_)
      refine sm_sub [] rfl ?_
      exact sJ_X7_writeOff_42 Z  r39 S39
    refine sm_ldc2 (pc := 32) (-5 : Int64) dX7_writeOff_32 kc_RX7_130 ?_
    refine sm_goto 42 (pc := 35) dX7_writeOff_35 rfl ?_
    refine sm_sub [] rfl ?_
    exact sJ_X7_writeOff_42 Z  (-5 : Int64) S26
  refine sm_ldc2 (pc := 11) (-1 : Int64) dX7_writeOff_11 kc_RX7_79 ?_
  exact sm_retL (pc := 14) dX7_writeOff_14
set_option maxRecDepth 20000 in
set_option maxHeartbeats 4000000 in
theorem m_X7_writeOff (Z : ZT) (l : Launch) (c : Nat) (a1 : Int32) (S : St) {r : Int64} {S' : St} (h : F_X7_writeOff c a1 S = some (r, S')) : MetX Z l yX7_writeOff cX7_writeOff 3 (some .long) rm_X7_writeOff [.ref c, .int a1] S (eL r) S' := Sim.met (by decide +kernel) rfl (Nat.le_of_ble_eq_true rfl) (s_X7_writeOff Z c a1 S) l h
set_option maxRecDepth 20000 in
set_option maxHeartbeats 4000000 in
theorem sJ_X7_rule_70 (Z : ZT)  (x3 : Int32)  (S : St) : Sim eI Z rm_X7_rule RX7 cX7_rule 4 (some .int) 70 [(3, .int x3)] [] S (J_X7_rule_70  x3 S) := by
  unfold J_X7_rule_70
  refine sm_iload_n (pc := 70) dX7_rule_70 rfl 0 rfl ?_
  exact sm_retI (pc := 71) dX7_rule_71
set_option maxRecDepth 20000 in
set_option maxHeartbeats 4000000 in
theorem sJ_X7_rule_68 (Z : ZT)    (S : St) : Sim eI Z rm_X7_rule RX7 cX7_rule 4 (some .int) 68 [] [] S (J_X7_rule_68  S) := by
  unfold J_X7_rule_68
  refine sm_iconst (pc := 68) (-1 : Int32) dX7_rule_68 (by decide) ?_
  refine sm_istore_n (pc := 69) (lv' := [(3, .int (-1 : Int32))]) dX7_rule_69 rfl (by decide) rfl ?_
  refine sm_sub [0] rfl ?_
  exact sJ_X7_rule_70 Z  (-1 : Int32) S
set_option maxRecDepth 20000 in
set_option maxHeartbeats 4000000 in
theorem sJ_X7_rule_33 (Z : ZT)  (x0 : Nat) (x1 : Int32) (x2 : Int32)  (S : St) : Sim eI Z rm_X7_rule RX7 cX7_rule 4 (some .int) 33 [(0, .ref x0), (1, .int x1), (2, .int x2)] [] S (J_X7_rule_33  x0 x1 x2 S) := by
  unfold J_X7_rule_33
  refine sm_iload_n (pc := 33) dX7_rule_33 rfl 1 rfl ?_
  refine sm_iconst (pc := 34) (1 : Int32) dX7_rule_34 (by decide) ?_
  refine sm_icmp_ne 68 (pc := 35) dX7_rule_35 rfl ?_ ?_
  · refine sm_sub [] rfl ?_
    exact sJ_X7_rule_68 Z  S
  refine sm_iload_n (pc := 38) dX7_rule_38 rfl 2 rfl ?_
  refine sm_iconst (pc := 39) (0 : Int32) dX7_rule_39 (by decide) ?_
  refine sm_sipush (pc := 40) (10000 : Int32) dX7_rule_40 (by decide) ?_
  refine sm_callSI (pc := 43) [.int x2, .int (0 : Int32), .int (10000 : Int32)] (fun lq rq Sq hq => m_X7_isWithin Z lq x2 (0 : Int32) (10000 : Int32) S hq) dX7_rule_43 mi_X7_isWithin ml_RX7_67 ⟨Nat.le_of_ble_eq_true rfl, Nat.le_of_ble_eq_true rfl, rfl, rfl⟩ rfl (Nat.le_of_ble_eq_true rfl) rfl (fun r43 S43 => ?_)
  refine sm_if_eq 68 (pc := 46) dX7_rule_46 rfl ?_ ?_
  · refine sm_sub [] rfl ?_
    exact sJ_X7_rule_68 Z  S43
  refine sm_aload_n (pc := 49) dX7_rule_49 rfl 0 rfl ?_
  refine sm_getR (pc := 50) dX7_rule_50 fr_RX7_10 (by decide) rfl (fun v50 => ?_)
  refine sm_getI (pc := 53) dX7_rule_53 fr_RX7_139 (by decide) rfl (fun v53 => ?_)
  refine sm_istore_n (pc := 56) (lv' := [(3, .int v53), (0, .ref x0), (1, .int x1), (2, .int x2)]) dX7_rule_56 rfl (by decide) rfl ?_
  refine sm_aload_n (pc := 57) dX7_rule_57 rfl 1 rfl ?_
  refine sm_getR (pc := 58) dX7_rule_58 fr_RX7_10 (by decide) rfl (fun v58 => ?_)
  refine sm_iload_n (pc := 61) dX7_rule_61 rfl 3 rfl ?_
  refine sm_putI (pc := 62) dX7_rule_62 fw_RX7_139 (by decide) rfl (fun S62 => ?_)
  refine sm_goto 70 (pc := 65) dX7_rule_65 rfl ?_
  refine sm_sub [0] rfl ?_
  exact sJ_X7_rule_70 Z  v53 S62
set_option maxRecDepth 20000 in
set_option maxHeartbeats 4000000 in
theorem s_X7_rule (Z : ZT) (c : Nat) (a1 : Int32) (a2 : Int32) (S : St) : Sim eI Z rm_X7_rule RX7 cX7_rule 4 (some .int) 0 [(0, .ref c), (1, .int a1), (2, .int a2)] [] S (F_X7_rule c a1 a2 S) := by
  unfold F_X7_rule
  refine sm_iload_n (pc := 0) dX7_rule_0 rfl 1 rfl ?_
  refine sm_if_ne 33 (pc := 1) dX7_rule_1 rfl ?_ ?_
  · refine sm_sub [0, 1, 2] rfl ?_
    exact sJ_X7_rule_33 Z  c a1 a2 S
  refine sm_iload_n (pc := 4) dX7_rule_4 rfl 2 rfl ?_
  refine sm_iconst (pc := 5) (0 : Int32) dX7_rule_5 (by decide) ?_
  refine sm_bipush (pc := 6) (90 : Int32) dX7_rule_6 (by decide) ?_
  refine sm_callSI (pc := 8) [.int a2, .int (0 : Int32), .int (90 : Int32)] (fun lq rq Sq hq => m_X7_isWithin Z lq a2 (0 : Int32) (90 : Int32) S hq) dX7_rule_8 mi_X7_isWithin ml_RX7_67 ⟨Nat.le_of_ble_eq_true rfl, Nat.le_of_ble_eq_true rfl, rfl, rfl⟩ rfl (Nat.le_of_ble_eq_true rfl) rfl (fun r8 S8 => ?_)
  refine sm_if_eq 33 (pc := 11) dX7_rule_11 rfl ?_ ?_
  · refine sm_sub [0, 1, 2] rfl ?_
    exact sJ_X7_rule_33 Z  c a1 a2 S8
  refine sm_aload_n (pc := 14) dX7_rule_14 rfl 0 rfl ?_
  refine sm_getR (pc := 15) dX7_rule_15 fr_RX7_10 (by decide) rfl (fun v15 => ?_)
  refine sm_getI (pc := 18) dX7_rule_18 fr_RX7_136 (by decide) rfl (fun v18 => ?_)
  refine sm_istore_n (pc := 21) (lv' := [(3, .int v18), (0, .ref c), (1, .int a1), (2, .int a2)]) dX7_rule_21 rfl (by decide) rfl ?_
  refine sm_aload_n (pc := 22) dX7_rule_22 rfl 1 rfl ?_
  refine sm_getR (pc := 23) dX7_rule_23 fr_RX7_10 (by decide) rfl (fun v23 => ?_)
  refine sm_iload_n (pc := 26) dX7_rule_26 rfl 3 rfl ?_
  refine sm_putI (pc := 27) dX7_rule_27 fw_RX7_136 (by decide) rfl (fun S27 => ?_)
  refine sm_goto 70 (pc := 30) dX7_rule_30 rfl ?_
  refine sm_sub [0] rfl ?_
  exact sJ_X7_rule_70 Z  v18 S27
set_option maxRecDepth 20000 in
set_option maxHeartbeats 4000000 in
theorem m_X7_rule (Z : ZT) (l : Launch) (c : Nat) (a1 : Int32) (a2 : Int32) (S : St) {r : Int32} {S' : St} (h : F_X7_rule c a1 a2 S = some (r, S')) : MetX Z l yX7_rule cX7_rule 4 (some .int) rm_X7_rule [.ref c, .int a1, .int a2] S (eI r) S' := Sim.met (by decide +kernel) rfl (Nat.le_of_ble_eq_true rfl) (s_X7_rule Z c a1 a2 S) l h
set_option maxRecDepth 20000 in
set_option maxHeartbeats 4000000 in
theorem sJ_X7_of_161 (Z : ZT)   (t0 : Int32) (S : St) : Sim eI Z rm_X7_of RX7 cX7_of 4 (some .int) 161 [] [.int t0] S (J_X7_of_161  t0 S) := by
  unfold J_X7_of_161
  exact sm_retI (pc := 161) dX7_of_161
set_option maxRecDepth 20000 in
set_option maxHeartbeats 4000000 in
theorem s_X7_of (Z : ZT) (c : Nat) (a1 : Int32) (a2 : Int32) (S : St) : Sim eI Z rm_X7_of RX7 cX7_of 4 (some .int) 0 [(0, .ref c), (1, .int a1), (2, .int a2)] [] S (F_X7_of c a1 a2 S) := by
  unfold F_X7_of
  refine sm_aload_n (pc := 0) dX7_of_0 rfl 0 rfl ?_
  refine sm_getR (pc := 1) dX7_of_1 fr_RX7_10 (by decide) rfl (fun v1 => ?_)
  refine sm_iload_n (pc := 4) dX7_of_4 rfl 1 rfl ?_
  refine sm_callVI (pc := 5) [.int a1] (fun lq rq Sq hq => m_X1_has Z lq v1 a1 S hq) dX7_of_5 mi_X1_has ml_RX7_101 ⟨Nat.le_of_ble_eq_true rfl, Nat.le_of_ble_eq_true rfl, rfl, rfl⟩ rfl (by decide) rfl (Nat.le_of_ble_eq_true rfl) rfl (fun r5 S5 => ?_)
  refine sm_if_ne 13 (pc := 8) dX7_of_8 rfl ?_ ?_
  · refine sm_aload_n (pc := 13) dX7_of_13 rfl 0 rfl ?_
    refine sm_getR (pc := 14) dX7_of_14 fr_RX7_10 (by decide) rfl (fun v14 => ?_)
    refine sm_getR (pc := 17) dX7_of_17 fr_RX7_108 (by decide) rfl (fun v17 => ?_)
    refine sm_iload_n (pc := 20) dX7_of_20 rfl 1 rfl ?_
    refine sm_aR (pc := 21) dX7_of_21 (by decide) (fun v21 => ?_)
    refine sm_astore_n (pc := 22) (lv' := [(3, .ref v21), (0, .ref c), (1, .int a1), (2, .int a2)]) dX7_of_22 rfl (by decide) rfl ?_
    refine sm_iload_n (pc := 23) dX7_of_23 rfl 3 rfl ?_
    refine sm_tswk (pc := 24) 162 [80, 85, 90, 95, 100, 105, 112, 117, 122, 134] [0, 1, 2, 3, 4, 5, 6, 7, 8, 9] dX7_of_24 rfl (by decide) (by decide) (by decide) rfl ⟨?_, ?_, ?_, ?_, ?_, ?_, ?_, ?_, ?_, ?_, trivial⟩ ?_
    · refine sm_aload_n (pc := 80) dX7_of_80 rfl 0 rfl ?_
      refine sm_getI (pc := 81) dX7_of_81 fr_RX7_116 (by decide) rfl (fun v81 => ?_)
      exact sm_retI (pc := 84) dX7_of_84
    · refine sm_aload_n (pc := 85) dX7_of_85 rfl 0 rfl ?_
      refine sm_getI (pc := 86) dX7_of_86 fr_RX7_142 (by decide) rfl (fun v86 => ?_)
      exact sm_retI (pc := 89) dX7_of_89
    · refine sm_aload_n (pc := 90) dX7_of_90 rfl 0 rfl ?_
      refine sm_getI (pc := 91) dX7_of_91 fr_RX7_145 (by decide) rfl (fun v91 => ?_)
      exact sm_retI (pc := 94) dX7_of_94
    · refine sm_aload_n (pc := 95) dX7_of_95 rfl 0 rfl ?_
      refine sm_getI (pc := 96) dX7_of_96 fr_RX7_148 (by decide) rfl (fun v96 => ?_)
      exact sm_retI (pc := 99) dX7_of_99
    · refine sm_aload_n (pc := 100) dX7_of_100 rfl 0 rfl ?_
      refine sm_getI (pc := 101) dX7_of_101 fr_RX7_151 (by decide) rfl (fun v101 => ?_)
      exact sm_retI (pc := 104) dX7_of_104
    · refine sm_aload_n (pc := 105) dX7_of_105 rfl 0 rfl ?_
      refine sm_getR (pc := 106) dX7_of_106 fr_RX7_154 (by decide) rfl (fun v106 => ?_)
      refine sm_iconst (pc := 109) (0 : Int32) dX7_of_109 (by decide) ?_
      refine sm_aI (pc := 110) dX7_of_110 (fun v110 => ?_)
      exact sm_retI (pc := 111) dX7_of_111
    · refine sm_aload_n (pc := 112) dX7_of_112 rfl 0 rfl ?_
      refine sm_getI (pc := 113) dX7_of_113 fr_RX7_158 (by decide) rfl (fun v113 => ?_)
      exact sm_retI (pc := 116) dX7_of_116
    · refine sm_aload_n (pc := 117) dX7_of_117 rfl 0 rfl ?_
      refine sm_callVI (pc := 118) [] (fun lq rq Sq hq => m_X4_billsInArrears Z lq v21 S5 hq) dX7_of_118 mi_X4_billsInArrears ml_RX7_161 ⟨Nat.le_of_ble_eq_true rfl, Nat.le_of_ble_eq_true rfl, rfl, rfl⟩ rfl (by decide) rfl (Nat.le_of_ble_eq_true rfl) rfl (fun r118 S118 => ?_)
      exact sm_retI (pc := 121) dX7_of_121
    · refine sm_aload_n (pc := 122) dX7_of_122 rfl 0 rfl ?_
      refine sm_aload_n (pc := 123) dX7_of_123 rfl 1 rfl ?_
      refine sm_getR (pc := 124) dX7_of_124 fr_RX7_10 (by decide) rfl (fun v124 => ?_)
      refine sm_getI (pc := 127) dX7_of_127 fr_RX7_93 (by decide) rfl (fun v127 => ?_)
      refine sm_callVI (pc := 130) [.int v127] (fun lq rq Sq hq => m_X4_daysLate Z lq v21 v127 S5 hq) dX7_of_130 mi_X4_daysLate ml_RX7_165 ⟨Nat.le_of_ble_eq_true rfl, Nat.le_of_ble_eq_true rfl, rfl, rfl⟩ rfl (by decide) rfl (Nat.le_of_ble_eq_true rfl) rfl (fun r130 S130 => ?_)
      exact sm_retI (pc := 133) dX7_of_133
    · refine sm_aload_n (pc := 134) dX7_of_134 rfl 0 rfl ?_
      refine sm_getI (pc := 135) dX7_of_135 fr_RX7_158 (by decide) rfl (fun v135 => ?_)
      refine sm_aload_n (pc := 138) dX7_of_138 rfl 0 rfl ?_
      refine sm_getI (pc := 139) dX7_of_139 fr_RX7_148 (by decide) rfl (fun v139 => ?_)
      refine sm_icmp_ge 159 (pc := 142) dX7_of_142 rfl ?_ ?_
      · refine sm_bipush (pc := 159) (-2 : Int32) dX7_of_159 (by decide) ?_
        refine sm_sub [] rfl ?_
        exact sJ_X7_of_161 Z  (-2 : Int32) S5
      refine sm_aload_n (pc := 145) dX7_of_145 rfl 0 rfl ?_
      refine sm_getR (pc := 146) dX7_of_146 fr_RX7_154 (by decide) rfl (fun v146 => ?_)
      refine sm_aload_n (pc := 149) dX7_of_149 rfl 0 rfl ?_
      refine sm_getI (pc := 150) dX7_of_150 fr_RX7_158 (by decide) rfl (fun v150 => ?_)
      refine sm_iconst (pc := 153) (1 : Int32) dX7_of_153 (by decide) ?_
      refine sm_iadd (pc := 154) dX7_of_154 ?_
      refine sm_aI (pc := 155) dX7_of_155 (fun v155 => ?_)
      refine sm_goto 161 (pc := 156) dX7_of_156 rfl ?_
      refine sm_sub [] rfl ?_
      exact sJ_X7_of_161 Z  v155 S5
    refine sm_iconst (pc := 162) (-1 : Int32) dX7_of_162 (by decide) ?_
    exact sm_retI (pc := 163) dX7_of_163
  refine sm_iconst (pc := 11) (-1 : Int32) dX7_of_11 (by decide) ?_
  exact sm_retI (pc := 12) dX7_of_12
set_option maxRecDepth 20000 in
set_option maxHeartbeats 4000000 in
theorem m_X7_of (Z : ZT) (l : Launch) (c : Nat) (a1 : Int32) (a2 : Int32) (S : St) {r : Int32} {S' : St} (h : F_X7_of c a1 a2 S = some (r, S')) : MetX Z l yX7_of cX7_of 4 (some .int) rm_X7_of [.ref c, .int a1, .int a2] S (eI r) S' := Sim.met (by decide +kernel) rfl (Nat.le_of_ble_eq_true rfl) (s_X7_of Z c a1 a2 S) l h
