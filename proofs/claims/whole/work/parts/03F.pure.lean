set_option maxRecDepth 20000 in
set_option maxHeartbeats 4000000 in
def J_X0_isRateOfPeriod_27   (t0 : Int32) (S : St) : Option (Int32 × St) :=
  zr t0 S
set_option maxRecDepth 20000 in
set_option maxHeartbeats 4000000 in
def J_X0_isRateOfPeriod_22    (S : St) : Option (Int32 × St) :=
  J_X0_isRateOfPeriod_27  (1 : Int32) S
set_option maxRecDepth 20000 in
set_option maxHeartbeats 4000000 in
def J_X0_isRateOfPeriod_14  (x0 : Int64)  (S : St) : Option (Int32 × St) :=
  if ¬ x0 = (-9223372036854775808 : Int64) then (J_X0_isRateOfPeriod_27  (0 : Int32) S) else (J_X0_isRateOfPeriod_22  S)
set_option maxRecDepth 20000 in
set_option maxHeartbeats 4000000 in
def F_X0_isRateOfPeriod (a1 : Int64) (S : St) : Option (Int32 × St) :=
  if a1 < (0 : Int64) then (J_X0_isRateOfPeriod_14  a1 S) else (if a1 ≤ (4621819117588971520 : Int64) then (J_X0_isRateOfPeriod_22  S) else (J_X0_isRateOfPeriod_14  a1 S))
set_option maxRecDepth 20000 in
set_option maxHeartbeats 4000000 in
def J_J9_max_7cf53_10   (t0 : Int32) (S : St) : Option (Int32 × St) :=
  some (t0, S)
set_option maxRecDepth 20000 in
set_option maxHeartbeats 4000000 in
def F_J9_max_7cf53 (a1 : Int32) (a2 : Int32) (S : St) : Option (Int32 × St) :=
  if a1 < a2 then (J_J9_max_7cf53_10  a2 S) else (J_J9_max_7cf53_10  a1 S)
set_option maxRecDepth 20000 in
set_option maxHeartbeats 4000000 in
def J_X0_toDouble_84  (x5 : UInt64)  (S : St) : Option (UInt64 × St) :=
  some (x5, S)
set_option maxRecDepth 20000 in
set_option maxHeartbeats 4000000 in
def B_X0_toDouble_47 (rec47 : (UInt64 → Int32 → Int32 → St → Option (UInt64 × St))) (x5 : UInt64) (x7 : Int32) (x8 : Int32)  (S : St) : Option (UInt64 × St) :=
  if (1100 : Int32) ≤ x8 then (J_X0_toDouble_84  x5 S) else (if 0 ≤ x7 then (J_X0_toDouble_84  x5 S) else (if dx x5 FP.dconst0 .l ≤ 0 then (J_X0_toDouble_84  x5 S) else (dq (FP.ddiv x5 (4611686018427387904 : UInt64)) fun v72 => rec47 v72 (x7 + 1) (x8 + 1) S)))
set_option maxRecDepth 20000 in
set_option maxHeartbeats 4000000 in
def L_X0_toDouble_47  : Nat → UInt64 → Int32 → Int32 → St → Option (UInt64 × St)
  | 0, _, _, _, _ => none
  | n + 1, x5, x7, x8, S => B_X0_toDouble_47  (L_X0_toDouble_47  n) x5 x7 x8 S
set_option maxRecDepth 20000 in
set_option maxHeartbeats 4000000 in
def J_X0_toDouble_31  (x2 : Int32) (t0 : UInt64) (S : St) : Option (UInt64 × St) :=
  cl (F_J9_max_7cf53 x2 (1 : Int32) S) fun r35 S35 => bd ((r35 - (1075 : Int32))) fun v42 => L_X0_toDouble_47  6000 t0 v42 (0 : Int32) S35
set_option maxRecDepth 20000 in
set_option maxHeartbeats 4000000 in
def F_X0_toDouble (a1 : Int64) (S : St) : Option (UInt64 × St) :=
  bd (((Int64.toInt32 ((Int64.toUInt64 a1) >>> ((Int64.toUInt64 (Int32.toInt64 (52 : Int32))) &&& Int64.toUInt64 63)).toInt64) &&& (2047 : Int32))) fun v9 => bd ((a1 &&& (4503599627370495 : Int64))) fun v15 => if ¬ v9 = 0 then (J_X0_toDouble_31  v9 (FP.l2d (v15 + (4503599627370496 : Int64))) S) else (J_X0_toDouble_31  v9 (FP.l2d v15) S)
set_option maxRecDepth 20000 in
set_option maxHeartbeats 4000000 in
def J_X0_ofDouble_81  (x2 : UInt64) (x4 : Int32)  (S : St) : Option (Int64 × St) :=
  dq (FP.dsub x2 FP.dconst1) fun v89 => dq (FP.dmul v89 (4841369599423283200 : UInt64)) fun v93 => some ((((Int32.toInt64 x4) <<< ((Int32.toInt64 (52 : Int32)) &&& 63)) + (FP.d2l v93)), S)
set_option maxRecDepth 20000 in
set_option maxHeartbeats 4000000 in
def B_X0_ofDouble_52 (rec52 : (UInt64 → Int32 → Int32 → St → Option (Int64 × St))) (x2 : UInt64) (x4 : Int32) (x5 : Int32)  (S : St) : Option (Int64 × St) :=
  if (1100 : Int32) ≤ x5 then (J_X0_ofDouble_81  x2 x4 S) else (if 0 ≤ dx x2 FP.dconst1 .g then (J_X0_ofDouble_81  x2 x4 S) else (dq (FP.dmul x2 (4611686018427387904 : UInt64)) fun v70 => rec52 v70 (x4 + (-1)) (x5 + 1) S))
set_option maxRecDepth 20000 in
set_option maxHeartbeats 4000000 in
def L_X0_ofDouble_52  : Nat → UInt64 → Int32 → Int32 → St → Option (Int64 × St)
  | 0, _, _, _, _ => none
  | n + 1, x2, x4, x5, S => B_X0_ofDouble_52  (L_X0_ofDouble_52  n) x2 x4 x5 S
set_option maxRecDepth 20000 in
set_option maxHeartbeats 4000000 in
def J_X0_ofDouble_49  (x2 : UInt64) (x4 : Int32)  (S : St) : Option (Int64 × St) :=
  L_X0_ofDouble_52  6000 x2 x4 (0 : Int32) S
set_option maxRecDepth 20000 in
set_option maxHeartbeats 4000000 in
def B_X0_ofDouble_18 (rec18 : (UInt64 → Int32 → Int32 → St → Option (Int64 × St))) (x2 : UInt64) (x4 : Int32) (x5 : Int32)  (S : St) : Option (Int64 × St) :=
  if (1100 : Int32) ≤ x5 then (J_X0_ofDouble_49  x2 x4 S) else (if dx x2 (4611686018427387904 : UInt64) .l < 0 then (J_X0_ofDouble_49  x2 x4 S) else (dq (FP.ddiv x2 (4611686018427387904 : UInt64)) fun v38 => rec18 v38 (x4 + 1) (x5 + 1) S))
set_option maxRecDepth 20000 in
set_option maxHeartbeats 4000000 in
def L_X0_ofDouble_18  : Nat → UInt64 → Int32 → Int32 → St → Option (Int64 × St)
  | 0, _, _, _, _ => none
  | n + 1, x2, x4, x5, S => B_X0_ofDouble_18  (L_X0_ofDouble_18  n) x2 x4 x5 S
set_option maxRecDepth 20000 in
set_option maxHeartbeats 4000000 in
def F_X0_ofDouble (a1 : UInt64) (S : St) : Option (Int64 × St) :=
  if 0 < dx a1 FP.dconst0 .l then (L_X0_ofDouble_18  6000 a1 (1023 : Int32) (0 : Int32) S) else (some ((0 : Int64), S))
set_option maxRecDepth 20000 in
set_option maxHeartbeats 4000000 in
def F_X0_ofFloat (a1 : UInt32) (S : St) : Option (Int32 × St) :=
  dq (FP.f2d a1) fun v1 => cl (F_X0_ofDouble v1 S) fun r2 S2 => if ¬ r2 = (0 : Int64) then (bd ((((Int64.toInt32 ((Int64.toUInt64 r2) >>> ((Int64.toUInt64 (Int32.toInt64 (52 : Int32))) &&& Int64.toUInt64 63)).toInt64) - (1023 : Int32)) + (127 : Int32))) fun v26 => some (((v26 <<< ((23 : Int32) &&& 31)) + (Int64.toInt32 ((Int64.toUInt64 (r2 &&& (4503599627370495 : Int64))) >>> ((Int64.toUInt64 (Int32.toInt64 (29 : Int32))) &&& Int64.toUInt64 63)).toInt64)), S2)) else (some ((0 : Int32), S2))
set_option maxRecDepth 20000 in
set_option maxHeartbeats 4000000 in
def F_X4_copyFrom (c : Nat) (a1 : Nat) (S : St) : Option (Unit × St) :=
  gL 2 0 a1 S fun v2 => pL 2 0 c v2 S fun S5 => gL 2 1 a1 S5 fun v10 => pL 2 1 c v10 S5 fun S13 => gL 2 2 a1 S13 fun v18 => pL 2 2 c v18 S13 fun S21 => gL 2 3 a1 S21 fun v26 => pL 2 3 c v26 S21 fun S29 => gL 2 4 a1 S29 fun v34 => pL 2 4 c v34 S29 fun S37 => gL 2 5 a1 S37 fun v42 => pL 2 5 c v42 S37 fun S45 => gL 2 6 a1 S45 fun v50 => pL 2 6 c v50 S45 fun S53 => gI 2 7 a1 S53 fun v58 => pI 2 7 c v58 S53 fun S61 => gI 2 8 a1 S61 fun v66 => pI 2 8 c v66 S61 fun S69 => gI 2 9 a1 S69 fun v74 => pI 2 9 c v74 S69 fun S77 => gI 2 10 a1 S77 fun v82 => pI 2 10 c v82 S77 fun S85 => gI 2 11 a1 S85 fun v90 => pI 2 11 c v90 S85 fun S93 => gI 2 12 a1 S93 fun v98 => pI 2 12 c v98 S93 fun S101 => gR 2 13 a1 fun v105 => gR 2 13 c fun v110 => acI 10 v105 v110 (61 : Int32) S101 fun S116 => gR 2 14 a1 fun v120 => gR 2 14 c fun v125 => acJ v120 v125 (61 : Int32) S116 fun S131 => gR 2 15 a1 fun v135 => gR 2 15 c fun v140 => acJ v135 v140 (61 : Int32) S131 fun S146 => gR 2 16 a1 fun v150 => gR 2 16 c fun v155 => acJ v150 v155 (61 : Int32) S146 fun S161 => gR 2 17 a1 fun v165 => gR 2 17 c fun v170 => acJ v165 v170 (61 : Int32) S161 fun S176 => gR 2 18 a1 fun v180 => gR 2 18 c fun v185 => acZ v180 v185 (61 : Int32) S176 fun S191 => some ((), S191)
set_option maxRecDepth 20000 in
set_option maxHeartbeats 4000000 in
def B_X1_copyFrom_34 (rec34 : (Nat → Nat → Int32 → St → Option (Unit × St))) (x0 : Nat) (x1 : Nat) (x2 : Int32)  (S : St) : Option (Unit × St) :=
  gI 0 3 x0 S fun v36 => if v36 ≤ x2 then (some ((), S)) else (gR 0 4 x0 fun v43 => aR 14 v43 x2 fun v47 => gR 0 4 x1 fun v49 => aR 14 v49 x2 fun v53 => gk v47 2 <| cl (F_X4_copyFrom v47 v53 S) fun _ S54 => rec34 x0 x1 (x2 + 1) S54)
set_option maxRecDepth 20000 in
set_option maxHeartbeats 4000000 in
def L_X1_copyFrom_34  : Nat → Nat → Nat → Int32 → St → Option (Unit × St)
  | 0, _, _, _, _ => none
  | n + 1, x0, x1, x2, S => B_X1_copyFrom_34  (L_X1_copyFrom_34  n) x0 x1 x2 S
set_option maxRecDepth 20000 in
set_option maxHeartbeats 4000000 in
def F_X1_copyFrom (c : Nat) (a1 : Nat) (S : St) : Option (Unit × St) :=
  gI 0 0 a1 S fun v2 => pI 0 0 c v2 S fun S5 => gI 0 1 a1 S5 fun v10 => pI 0 1 c v10 S5 fun S13 => gI 0 2 a1 S13 fun v18 => pI 0 2 c v18 S13 fun S21 => gI 0 3 a1 S21 fun v26 => pI 0 3 c v26 S21 fun S29 => L_X1_copyFrom_34  6000 c a1 (0 : Int32) S29
set_option maxRecDepth 20000 in
set_option maxHeartbeats 4000000 in
def J_X1_has_17   (t0 : Int32) (S : St) : Option (Int32 × St) :=
  zr t0 S
set_option maxRecDepth 20000 in
set_option maxHeartbeats 4000000 in
def J_X1_has_16    (S : St) : Option (Int32 × St) :=
  J_X1_has_17  (0 : Int32) S
set_option maxRecDepth 20000 in
set_option maxHeartbeats 4000000 in
def F_X1_has (c : Nat) (a1 : Int32) (S : St) : Option (Int32 × St) :=
  if a1 < 0 then (J_X1_has_16  S) else (gI 0 3 c S fun v6 => if v6 ≤ a1 then (J_X1_has_16  S) else (J_X1_has_17  (1 : Int32) S))
set_option maxRecDepth 20000 in
set_option maxHeartbeats 4000000 in
def J_X7_isWithin_15   (t0 : Int32) (S : St) : Option (Int32 × St) :=
  zr t0 S
set_option maxRecDepth 20000 in
set_option maxHeartbeats 4000000 in
def J_X7_isWithin_14    (S : St) : Option (Int32 × St) :=
  J_X7_isWithin_15  (0 : Int32) S
set_option maxRecDepth 20000 in
set_option maxHeartbeats 4000000 in
def F_X7_isWithin (a1 : Int32) (a2 : Int32) (a3 : Int32) (S : St) : Option (Int32 × St) :=
  if a1 < a2 then (J_X7_isWithin_14  S) else (if a3 < a1 then (J_X7_isWithin_14  S) else (J_X7_isWithin_15  (1 : Int32) S))
set_option maxRecDepth 20000 in
set_option maxHeartbeats 4000000 in
def F_X7_isRate (a1 : Int32) (S : St) : Option (Int32 × St) :=
  cl (F_X7_isWithin a1 (0 : Int32) (5000 : Int32) S) fun r5 S5 => zr r5 S5
set_option maxRecDepth 20000 in
set_option maxHeartbeats 4000000 in
def J_X2_monthOf_76 (rec53 : (Int32 → Int32 → Int32 → Int32 → St → Option (Int32 × St))) (x1 : Int32) (x2 : Int32) (x3 : Int32) (x4 : Int32) (t0 : Int32) (t1 : Int32) (t2 : Int32) (S : St) : Option (Int32 × St) :=
  if t2 < (t1 + t0) then (rec53 x1 x2 x3 (x4 + (-1)) S) else (some (((x1 * (12 : Int32)) + x4), S))
set_option maxRecDepth 20000 in
set_option maxHeartbeats 4000000 in
def B_X2_monthOf_53 (rec53 : (Int32 → Int32 → Int32 → Int32 → St → Option (Int32 × St))) (x1 : Int32) (x2 : Int32) (x3 : Int32) (x4 : Int32)  (S : St) : Option (Int32 × St) :=
  if x4 ≤ 0 then (some ((x1 * (12 : Int32)), S)) else (aT x4 fun v64 => if x4 < (2 : Int32) then (J_X2_monthOf_76 rec53 x1 x2 x3 x4 (0 : Int32) v64 x2 S) else (J_X2_monthOf_76 rec53 x1 x2 x3 x4 x3 v64 x2 S))
set_option maxRecDepth 20000 in
set_option maxHeartbeats 4000000 in
def L_X2_monthOf_53  : Nat → Int32 → Int32 → Int32 → Int32 → St → Option (Int32 × St)
  | 0, _, _, _, _, _ => none
  | n + 1, x1, x2, x3, x4, S => B_X2_monthOf_53  (L_X2_monthOf_53  n) x1 x2 x3 x4 S
set_option maxRecDepth 20000 in
set_option maxHeartbeats 4000000 in
def J_X2_monthOf_49  (x1 : Int32) (x2 : Int32) (x3 : Int32)  (S : St) : Option (Int32 × St) :=
  L_X2_monthOf_53  6000 x1 x2 x3 (11 : Int32) S
set_option maxRecDepth 20000 in
set_option maxHeartbeats 4000000 in
def F_X2_monthOf (a1 : Int32) (S : St) : Option (Int32 × St) :=
  bd (((a1 / (1461 : Int32)) * (4 : Int32))) fun v7 => bd ((a1 - a1 / (1461 : Int32) * (1461 : Int32))) fun v13 => if v13 < (366 : Int32) then (J_X2_monthOf_49  v7 v13 (1 : Int32) S) else (bd ((v7 + ((1 : Int32) + ((v13 - (366 : Int32)) / (365 : Int32))))) fun v36 => bd (((v13 - (366 : Int32)) - (v13 - (366 : Int32)) / (365 : Int32) * (365 : Int32))) fun v46 => J_X2_monthOf_49  v36 v46 (0 : Int32) S)
set_option maxRecDepth 20000 in
set_option maxHeartbeats 4000000 in
def J_J9_floorMod_7cf53_18  (x2 : Int32)  (S : St) : Option (Int32 × St) :=
  some (x2, S)
set_option maxRecDepth 20000 in
set_option maxHeartbeats 4000000 in
def F_J9_floorMod_7cf53 (a1 : Int32) (a2 : Int32) (S : St) : Option (Int32 × St) :=
  nz 0 a2 <| bd ((a1 - a1 / a2 * a2)) fun v3 => if 0 ≤ (a1 ^^^ a2) then (J_J9_floorMod_7cf53_18  v3 S) else (if v3 = 0 then (J_J9_floorMod_7cf53_18  v3 S) else (some ((v3 + a2), S)))
set_option maxRecDepth 20000 in
set_option maxHeartbeats 4000000 in
def J_X2_firstOf_28  (x0 : Int32) (x1 : Int32) (x2 : Int32)  (S : St) : Option (Int32 × St) :=
  cl (F_J9_floorMod_7cf53 x0 (12 : Int32) S) fun r41 S41 => aT r41 fun v44 => some ((((x1 * (365 : Int32)) + x2) + v44), S41)
set_option maxRecDepth 20000 in
set_option maxHeartbeats 4000000 in
def F_X2_firstOf (a1 : Int32) (S : St) : Option (Int32 × St) :=
  bd ((a1 / (12 : Int32))) fun v4 => bd (((v4 + (3 : Int32)) / (4 : Int32))) fun v10 => if ¬ (v4 - v4 / (4 : Int32) * (4 : Int32)) = 0 then (J_X2_firstOf_28  a1 v4 v10 S) else (if (a1 - a1 / (12 : Int32) * (12 : Int32)) < (2 : Int32) then (J_X2_firstOf_28  a1 v4 v10 S) else (J_X2_firstOf_28  a1 v4 (v10 + 1) S))
set_option maxRecDepth 20000 in
set_option maxHeartbeats 4000000 in
def B_X4_clearArrears_2 (rec2 : (Nat → Int32 → St → Option (Unit × St))) (x0 : Nat) (x1 : Int32)  (S : St) : Option (Unit × St) :=
  if (60 : Int32) < x1 then (some ((), S)) else (gR 2 15 x0 fun v9 => sJ v9 x1 (0 : Int64) S fun S14 => gR 2 16 x0 fun v16 => sJ v16 x1 (0 : Int64) S14 fun S21 => gR 2 17 x0 fun v23 => sJ v23 x1 (0 : Int64) S21 fun S28 => gR 2 18 x0 fun v30 => sZ v30 x1 (0 : Int32) S28 fun S35 => rec2 x0 (x1 + 1) S35)
set_option maxRecDepth 20000 in
set_option maxHeartbeats 4000000 in
def L_X4_clearArrears_2  : Nat → Nat → Int32 → St → Option (Unit × St)
  | 0, _, _, _ => none
  | n + 1, x0, x1, S => B_X4_clearArrears_2  (L_X4_clearArrears_2  n) x0 x1 S
set_option maxRecDepth 20000 in
set_option maxHeartbeats 4000000 in
def F_X4_clearArrears (c : Nat) (S : St) : Option (Unit × St) :=
  L_X4_clearArrears_2  6000 c (0 : Int32) S
set_option maxRecDepth 20000 in
set_option maxHeartbeats 4000000 in
def F_X4_clear (c : Nat) (S : St) : Option (Unit × St) :=
  pL 2 2 c (0 : Int64) S fun S2 => pL 2 3 c (0 : Int64) S2 fun S7 => pL 2 4 c (0 : Int64) S7 fun S12 => pL 2 5 c (0 : Int64) S12 fun S17 => pL 2 6 c (0 : Int64) S17 fun S22 => pI 2 12 c (0 : Int32) S22 fun S27 => gk c 2 <| cl (F_X4_clearArrears c S27) fun _ S31 => some ((), S31)
set_option maxRecDepth 20000 in
set_option maxHeartbeats 4000000 in
def F_X2_lengthOf (a1 : Int32) (S : St) : Option (Int32 × St) :=
  cl (F_X2_firstOf (a1 + (1 : Int32)) S) fun r3 S3 => cl (F_X2_firstOf a1 S3) fun r7 S7 => some ((r3 - r7), S7)
set_option maxRecDepth 20000 in
set_option maxHeartbeats 4000000 in
def J_J9_min_7cf53_10   (t0 : Int32) (S : St) : Option (Int32 × St) :=
  some (t0, S)
set_option maxRecDepth 20000 in
set_option maxHeartbeats 4000000 in
def F_J9_min_7cf53 (a1 : Int32) (a2 : Int32) (S : St) : Option (Int32 × St) :=
  if a2 < a1 then (J_J9_min_7cf53_10  a2 S) else (J_J9_min_7cf53_10  a1 S)
set_option maxRecDepth 20000 in
set_option maxHeartbeats 4000000 in
def F_X2_leapYearDays (a1 : Int32) (S : St) : Option (Int32 × St) :=
  cl (F_J9_min_7cf53 (366 : Int32) (a1 - a1 / (1461 : Int32) * (1461 : Int32)) S) fun r17 S17 => some ((((a1 / (1461 : Int32)) * (366 : Int32)) + r17), S17)
set_option maxRecDepth 20000 in
set_option maxHeartbeats 4000000 in
def F_X2_thirties (a1 : Int32) (S : St) : Option (Int32 × St) :=
  cl (F_X2_monthOf a1 S) fun r1 S1 => cl (F_X2_firstOf r1 S1) fun r15 S15 => cl (F_J9_min_7cf53 (30 : Int32) (((1 : Int32) + a1) - r15) S15) fun r19 S19 => some (((r1 * (30 : Int32)) + r19), S19)
set_option maxRecDepth 20000 in
set_option maxHeartbeats 4000000 in
def F_X2_partsBetween (a1 : Int32) (a2 : Int32) (a3 : Int32) (S : St) : Option (Int64 × St) :=
  if ¬ a1 = 0 then (if (3 : Int32) ≤ a1 then (cl (F_X2_leapYearDays a3 S) fun r26 S26 => cl (F_X2_leapYearDays a2 S26) fun r30 S30 => bd ((Int32.toInt64 (r26 - r30))) fun v35 => some (((v35 * (365 : Int64)) + (((Int32.toInt64 (a3 - a2)) - v35) * (366 : Int64))), S30)) else (some ((Int32.toInt64 (a3 - a2)), S))) else (cl (F_X2_thirties a3 S) fun r5 S5 => cl (F_X2_thirties a2 S5) fun r9 S9 => some ((Int32.toInt64 (r5 - r9)), S9))
set_option maxRecDepth 20000 in
set_option maxHeartbeats 4000000 in
def B_X4_layPeriods_22 (rec22 : (Nat → Int32 → Int32 → Int32 → St → Option (Unit × St))) (x0 : Nat) (x2 : Int32) (x3 : Int32) (x4 : Int32)  (S : St) : Option (Unit × St) :=
  gI 2 11 x0 S fun v25 => if v25 < x4 then (some ((), S)) else (gR 2 13 x0 fun v32 => cl (F_X2_firstOf (x2 + x4) S) fun r41 S41 => cl (F_X2_lengthOf (x2 + x4) S41) fun r49 S49 => cl (F_J9_min_7cf53 x3 (r49 - (1 : Int32)) S49) fun r54 S54 => sI v32 x4 (r41 + r54) S54 fun S58 => gR 2 14 x0 fun v60 => gI 2 8 x0 S58 fun v66 => gR 2 13 x0 fun v70 => aI v70 (x4 - (1 : Int32)) S58 fun v77 => gR 2 13 x0 fun v79 => aI v79 x4 S58 fun v84 => cl (F_X2_partsBetween v66 v77 v84 S58) fun r85 S85 => sJ v60 x4 r85 S85 fun S88 => rec22 x0 x2 x3 (x4 + 1) S88)
set_option maxRecDepth 20000 in
set_option maxHeartbeats 4000000 in
def L_X4_layPeriods_22  : Nat → Nat → Int32 → Int32 → Int32 → St → Option (Unit × St)
  | 0, _, _, _, _, _ => none
  | n + 1, x0, x2, x3, x4, S => B_X4_layPeriods_22  (L_X4_layPeriods_22  n) x0 x2 x3 x4 S
set_option maxRecDepth 20000 in
set_option maxHeartbeats 4000000 in
def F_X4_layPeriods (c : Nat) (a1 : Int32) (S : St) : Option (Unit × St) :=
  cl (F_X2_monthOf a1 S) fun r1 S1 => cl (F_X2_firstOf r1 S1) fun r7 S7 => bd ((a1 - r7)) fun v11 => gR 2 13 c fun v13 => sI v13 (0 : Int32) a1 S7 fun S18 => L_X4_layPeriods_22  6000 c r1 v11 (1 : Int32) S18
set_option maxRecDepth 20000 in
set_option maxHeartbeats 4000000 in
def J_X2_cents_25  (x0 : Int64) (x3 : Int64) (t0 : Int64) (S : St) : Option (Int64 × St) :=
  bd ((t0 * (10000 : Int64))) fun v33 => nz 0 v33 <| some ((((x0 * x3) + (v33 / (2 : Int64))) / v33), S)
set_option maxRecDepth 20000 in
set_option maxHeartbeats 4000000 in
def F_X2_cents (a1 : Int64) (a2 : Int32) (a3 : Int64) (S : St) : Option (Int64 × St) :=
  if (2 : Int32) ≤ a2 then (if ¬ a2 = (2 : Int32) then (J_X2_cents_25  a1 a3 (133590 : Int64) S) else (J_X2_cents_25  a1 a3 (365 : Int64) S)) else (J_X2_cents_25  a1 a3 (360 : Int64) S)
set_option maxRecDepth 20000 in
set_option maxHeartbeats 4000000 in
def F_X4_interestOf (c : Nat) (a1 : Int32) (a2 : Int64) (S : St) : Option (Int64 × St) :=
  gI 2 7 c S fun v2 => gI 2 8 c S fun v8 => gR 2 14 c fun v12 => aJ v12 a1 S fun v16 => cl (F_X2_cents (a2 * (Int32.toInt64 v2)) v8 v16 S) fun r17 S17 => some (r17, S17)
set_option maxRecDepth 20000 in
set_option maxHeartbeats 4000000 in
def J_J9_max_f86c9_11   (t0 : Int64) (S : St) : Option (Int64 × St) :=
  some (t0, S)
set_option maxRecDepth 20000 in
set_option maxHeartbeats 4000000 in
def F_J9_max_f86c9 (a1 : Int64) (a2 : Int64) (S : St) : Option (Int64 × St) :=
  if a1 < a2 then (J_J9_max_f86c9_11  a2 S) else (J_J9_max_f86c9_11  a1 S)
set_option maxRecDepth 20000 in
set_option maxHeartbeats 4000000 in
def J_J9_min_f86c9_11   (t0 : Int64) (S : St) : Option (Int64 × St) :=
  some (t0, S)
set_option maxRecDepth 20000 in
set_option maxHeartbeats 4000000 in
def F_J9_min_f86c9 (a1 : Int64) (a2 : Int64) (S : St) : Option (Int64 × St) :=
  if a2 < a1 then (J_J9_min_f86c9_11  a2 S) else (J_J9_min_f86c9_11  a1 S)
set_option maxRecDepth 20000 in
set_option maxHeartbeats 4000000 in
def F_X4_repaidBy (a1 : Int64) (a2 : Int64) (a3 : Int64) (S : St) : Option (Int64 × St) :=
  cl (F_J9_max_f86c9 (0 : Int64) (a1 - a3) S) fun r6 S6 => cl (F_J9_min_f86c9 a2 r6 S6) fun r9 S9 => some (r9, S9)
set_option maxRecDepth 20000 in
set_option maxHeartbeats 4000000 in
def J_X4_isRepaidBy_60   (t0 : Int32) (S : St) : Option (Int32 × St) :=
  zr t0 S
set_option maxRecDepth 20000 in
set_option maxHeartbeats 4000000 in
def J_X4_isRepaidBy_49  (x3 : Int64)  (S : St) : Option (Int32 × St) :=
  if ¬ x3 = (0 : Int64) then (J_X4_isRepaidBy_60  (0 : Int32) S) else (J_X4_isRepaidBy_60  (1 : Int32) S)
set_option maxRecDepth 20000 in
set_option maxHeartbeats 4000000 in
def B_X4_isRepaidBy_13 (rec13 : (Nat → Int64 → Int64 → Int32 → St → Option (Int32 × St))) (x0 : Nat) (x1 : Int64) (x3 : Int64) (x5 : Int32)  (S : St) : Option (Int32 × St) :=
  gI 2 11 x0 S fun v16 => if v16 < x5 then (J_X4_isRepaidBy_49  x3 S) else (if x3 ≤ (0 : Int64) then (J_X4_isRepaidBy_49  x3 S) else (gk x0 2 <| cl (F_X4_interestOf x0 x5 x3 S) fun r35 S35 => cl (F_X4_repaidBy x1 x3 r35 S35) fun r38 S38 => bd ((x3 - r38)) fun v42 => rec13 x0 x1 v42 (x5 + 1) S38))
set_option maxRecDepth 20000 in
set_option maxHeartbeats 4000000 in
def L_X4_isRepaidBy_13  : Nat → Nat → Int64 → Int64 → Int32 → St → Option (Int32 × St)
  | 0, _, _, _, _, _ => none
  | n + 1, x0, x1, x3, x5, S => B_X4_isRepaidBy_13  (L_X4_isRepaidBy_13  n) x0 x1 x3 x5 S
set_option maxRecDepth 20000 in
set_option maxHeartbeats 4000000 in
def F_X4_isRepaidBy (c : Nat) (a1 : Int64) (S : St) : Option (Int32 × St) :=
  gL 2 1 c S fun v1 => gI 2 12 c S fun v6 => bd ((v6 + (1 : Int32))) fun v11 => L_X4_isRepaidBy_13  6000 c a1 v1 v11 S
set_option maxRecDepth 20000 in
set_option maxHeartbeats 4000000 in
def J_X4_findLevel_16    (S : St) : Option (Unit × St) :=
  some ((), S)
set_option maxRecDepth 20000 in
set_option maxHeartbeats 4000000 in
def J_X4_findLevel_68 (rec26 : (Nat → Int64 → Int64 → Int32 → St → Option (Unit × St))) (x0 : Nat) (x1 : Int64) (x3 : Int64) (x5 : Int32)  (S : St) : Option (Unit × St) :=
  rec26 x0 x1 x3 (x5 + 1) S
set_option maxRecDepth 20000 in
set_option maxHeartbeats 4000000 in
def J_X4_findLevel_74  (x0 : Nat) (x1 : Int64)  (S : St) : Option (Unit × St) :=
  pL 2 2 x0 x1 S fun S76 => some ((), S76)
set_option maxRecDepth 20000 in
set_option maxHeartbeats 4000000 in
def B_X4_findLevel_26 (rec26 : (Nat → Int64 → Int64 → Int32 → St → Option (Unit × St))) (x0 : Nat) (x1 : Int64) (x3 : Int64) (x5 : Int32)  (S : St) : Option (Unit × St) :=
  if (28 : Int32) ≤ x5 then (J_X4_findLevel_74  x0 x1 S) else (if x3 ≤ x1 then (J_X4_findLevel_74  x0 x1 S) else (bd (((x1 + x3) / (2 : Int64))) fun v46 => gk x0 2 <| cl (F_X4_isRepaidBy x0 v46 S) fun r51 S51 => if r51 = 0 then (bd ((v46 + (1 : Int64))) fun v67 => J_X4_findLevel_68 rec26 x0 v67 x3 x5 S51) else (J_X4_findLevel_68 rec26 x0 x1 v46 x5 S51)))
set_option maxRecDepth 20000 in
set_option maxHeartbeats 4000000 in
def L_X4_findLevel_26  : Nat → Nat → Int64 → Int64 → Int32 → St → Option (Unit × St)
  | 0, _, _, _, _, _ => none
  | n + 1, x0, x1, x3, x5, S => B_X4_findLevel_26  (L_X4_findLevel_26  n) x0 x1 x3 x5 S
set_option maxRecDepth 20000 in
set_option maxHeartbeats 4000000 in
def F_X4_findLevel (c : Nat) (S : St) : Option (Unit × St) :=
  gI 2 9 c S fun v1 => if ¬ v1 = 0 then (J_X4_findLevel_16  S) else (gL 2 1 c S fun v8 => if ¬ v8 = (0 : Int64) then (L_X4_findLevel_26  6000 c (0 : Int64) (200000000 : Int64) (0 : Int32) S) else (J_X4_findLevel_16  S))
set_option maxRecDepth 20000 in
set_option maxHeartbeats 4000000 in
def J_X1_lend_31    (S : St) : Option (Int32 × St) :=
  some ((-1 : Int32), S)
set_option maxRecDepth 20000 in
set_option maxHeartbeats 4000000 in
def J_X1_lend_64    (S : St) : Option (Int32 × St) :=
  some ((-1 : Int32), S)
set_option maxRecDepth 20000 in
set_option maxHeartbeats 4000000 in
def F_X1_lend (c : Nat) (a1 : Int64) (a2 : Int32) (a3 : Int32) (a4 : Int32) (a5 : Int32) (a6 : Int32) (S : St) : Option (Int32 × St) :=
  if a1 < (1 : Int64) then (J_X1_lend_31  S) else (if (100000000 : Int64) < a1 then (J_X1_lend_31  S) else (cl (F_X7_isRate a2 S) fun r15 S15 => if r15 = 0 then (J_X1_lend_31  S15) else (cl (F_X7_isWithin a3 (0 : Int32) (3 : Int32) S15) fun r25 S25 => if ¬ r25 = 0 then (cl (F_X7_isWithin a4 (0 : Int32) (2 : Int32) S25) fun r37 S37 => if r37 = 0 then (J_X1_lend_64  S37) else (cl (F_X7_isWithin a5 (0 : Int32) (1 : Int32) S37) fun r47 S47 => if r47 = 0 then (J_X1_lend_64  S47) else (cl (F_X7_isWithin a6 (1 : Int32) (60 : Int32) S47) fun r58 S58 => if ¬ r58 = 0 then (gI 0 0 c S58 fun v67 => cl (F_X2_monthOf v67 S58) fun r70 S70 => cl (F_X2_firstOf (r70 + a6) S70) fun r76 S76 => if r76 ≤ (36524 : Int32) then (gI 0 3 c S76 fun v88 => if v88 < (8 : Int32) then (gR 0 4 c fun v100 => gI 0 3 c S76 fun v104 => aR 14 v100 v104 fun v107 => gk v107 2 <| cl (F_X4_clear v107 S76) fun _ S112 => pL 2 0 v107 a1 S112 fun S118 => pL 2 1 v107 a1 S118 fun S124 => pI 2 7 v107 a2 S124 fun S130 => pI 2 8 v107 a3 S130 fun S137 => pI 2 9 v107 a4 S137 fun S144 => pI 2 10 v107 a5 S144 fun S151 => pI 2 11 v107 a6 S151 fun S158 => gI 0 0 c S158 fun v164 => gk v107 2 <| cl (F_X4_layPeriods v107 v164 S158) fun _ S167 => gk v107 2 <| cl (F_X4_findLevel v107 S167) fun _ S172 => gI 0 3 c S172 fun v177 => pI 0 3 c (v177 + (1 : Int32)) S172 fun S182 => gI 0 3 c S182 fun v186 => some ((v186 - (1 : Int32)), S182)) else (some ((-3 : Int32), S76))) else (some ((-5 : Int32), S76))) else (J_X1_lend_64  S58)))) else (J_X1_lend_31  S25))))
set_option maxRecDepth 20000 in
set_option maxHeartbeats 4000000 in
def F_X4_principalOf (c : Nat) (a1 : Int32) (a2 : Int64) (a3 : Int64) (S : St) : Option (Int64 × St) :=
  gI 2 11 c S fun v1 => bd (((v1 - a1) + (1 : Int32))) fun v8 => if (1 : Int32) < v8 then (gI 2 9 c S fun v19 => sw v19 (some ((0 : Int64), S)) [(0, gL 2 2 c S fun v49 => cl (F_X4_repaidBy v49 a2 a3 S) fun r55 S55 => some (r55, S55)), (1, nz 0 (Int32.toInt64 v8) <| some ((a2 / (Int32.toInt64 v8)), S))]) else (some (a2, S))
set_option maxRecDepth 20000 in
set_option maxHeartbeats 4000000 in
def F_X4_asks (c : Nat) (a1 : Int32) (S : St) : Option (Int64 × St) :=
  gR 2 15 c fun v1 => aJ v1 a1 S fun v5 => gR 2 16 c fun v7 => aJ v7 a1 S fun v11 => gR 2 17 c fun v14 => aJ v14 a1 S fun v18 => some (((v5 + v11) + v18), S)
set_option maxRecDepth 20000 in
set_option maxHeartbeats 4000000 in
def J_X4_endPeriods_96 (rec9 : (Nat → Int32 → Int32 → Int32 → St → Option (Int32 × St))) (x0 : Nat) (x1 : Int32) (x2 : Int32) (x3 : Int32)  (S : St) : Option (Int32 × St) :=
  rec9 x0 x1 x2 (x3 + 1) S
set_option maxRecDepth 20000 in
set_option maxHeartbeats 4000000 in
def J_X4_endPeriods_102  (x2 : Int32)  (S : St) : Option (Int32 × St) :=
  some (x2, S)
set_option maxRecDepth 20000 in
set_option maxHeartbeats 4000000 in
def B_X4_endPeriods_9 (rec9 : (Nat → Int32 → Int32 → Int32 → St → Option (Int32 × St))) (x0 : Nat) (x1 : Int32) (x2 : Int32) (x3 : Int32)  (S : St) : Option (Int32 × St) :=
  gI 2 11 x0 S fun v11 => if v11 < x3 then (J_X4_endPeriods_102  x2 S) else (gR 2 13 x0 fun v18 => aI v18 x3 S fun v22 => if x1 < v22 then (J_X4_endPeriods_102  x2 S) else (gR 2 16 x0 fun v28 => gL 2 1 x0 S fun v35 => gk x0 2 <| cl (F_X4_interestOf x0 x3 v35 S) fun r38 S38 => sJ v28 x3 r38 S38 fun S41 => gR 2 17 x0 fun v43 => gL 2 1 x0 S41 fun v50 => gR 2 16 x0 fun v54 => aJ v54 x3 S41 fun v58 => gk x0 2 <| cl (F_X4_principalOf x0 x3 v50 v58 S41) fun r59 S59 => sJ v43 x3 r59 S59 fun S62 => gL 2 1 x0 S62 fun v65 => gR 2 17 x0 fun v69 => aJ v69 x3 S62 fun v73 => pL 2 1 x0 (v65 - v73) S62 fun S75 => pI 2 12 x0 x3 S75 fun S80 => gk x0 2 <| cl (F_X4_asks x0 x3 S80) fun r85 S85 => if r85 ≤ (0 : Int64) then (J_X4_endPeriods_96 rec9 x0 x1 x2 x3 S85) else (J_X4_endPeriods_96 rec9 x0 x1 (x2 + 1) x3 S85)))
set_option maxRecDepth 20000 in
set_option maxHeartbeats 4000000 in
def L_X4_endPeriods_9  : Nat → Nat → Int32 → Int32 → Int32 → St → Option (Int32 × St)
  | 0, _, _, _, _, _ => none
  | n + 1, x0, x1, x2, x3, S => B_X4_endPeriods_9  (L_X4_endPeriods_9  n) x0 x1 x2 x3 S
set_option maxRecDepth 20000 in
set_option maxHeartbeats 4000000 in
def F_X4_endPeriods (c : Nat) (a1 : Int32) (S : St) : Option (Int32 × St) :=
  gI 2 12 c S fun v3 => bd ((v3 + (1 : Int32))) fun v8 => L_X4_endPeriods_9  6000 c a1 (0 : Int32) v8 S
set_option maxRecDepth 20000 in
set_option maxHeartbeats 4000000 in
def J_X4_chargeLate_74 (rec3 : (Nat → Int32 → Int32 → Int32 → Int32 → Int32 → St → Option (Unit × St))) (x0 : Nat) (x1 : Int32) (x2 : Int32) (x3 : Int32) (x4 : Int32) (x5 : Int32)  (S : St) : Option (Unit × St) :=
  rec3 x0 x1 x2 x3 x4 (x5 + 1) S
set_option maxRecDepth 20000 in
set_option maxHeartbeats 4000000 in
def B_X4_chargeLate_3 (rec3 : (Nat → Int32 → Int32 → Int32 → Int32 → Int32 → St → Option (Unit × St))) (x0 : Nat) (x1 : Int32) (x2 : Int32) (x3 : Int32) (x4 : Int32) (x5 : Int32)  (S : St) : Option (Unit × St) :=
  gI 2 12 x0 S fun v6 => if v6 < x5 then (some ((), S)) else (gR 2 13 x0 fun v13 => aI v13 x5 S fun v18 => bd ((v18 + x3)) fun v21 => gk x0 2 <| cl (F_X4_asks x0 x5 S) fun r26 S26 => if r26 ≤ (0 : Int64) then (J_X4_chargeLate_74 rec3 x0 x1 x2 x3 x4 x5 S26) else (gR 2 18 x0 fun v35 => aZ v35 x5 S26 fun v40 => if ¬ v40 = 0 then (J_X4_chargeLate_74 rec3 x0 x1 x2 x3 x4 x5 S26) else (if v21 < x1 then (J_X4_chargeLate_74 rec3 x0 x1 x2 x3 x4 x5 S26) else (if x2 < v21 then (J_X4_chargeLate_74 rec3 x0 x1 x2 x3 x4 x5 S26) else (gR 2 15 x0 fun v57 => sJ v57 x5 (Int32.toInt64 x4) S26 fun S65 => gR 2 18 x0 fun v67 => sZ v67 x5 (1 : Int32) S65 fun S73 => J_X4_chargeLate_74 rec3 x0 x1 x2 x3 x4 x5 S73)))))
set_option maxRecDepth 20000 in
set_option maxHeartbeats 4000000 in
def L_X4_chargeLate_3  : Nat → Nat → Int32 → Int32 → Int32 → Int32 → Int32 → St → Option (Unit × St)
  | 0, _, _, _, _, _, _, _ => none
  | n + 1, x0, x1, x2, x3, x4, x5, S => B_X4_chargeLate_3  (L_X4_chargeLate_3  n) x0 x1 x2 x3 x4 x5 S
set_option maxRecDepth 20000 in
set_option maxHeartbeats 4000000 in
def F_X4_chargeLate (c : Nat) (a1 : Int32) (a2 : Int32) (a3 : Int32) (a4 : Int32) (S : St) : Option (Unit × St) :=
  L_X4_chargeLate_3  6000 c a1 a2 a3 a4 (1 : Int32) S
set_option maxRecDepth 20000 in
set_option maxHeartbeats 4000000 in
def B_X1_passDays_4 (rec4 : (Nat → Int32 → Int32 → Int32 → St → Option (Int32 × St))) (x0 : Nat) (x1 : Int32) (x2 : Int32) (x3 : Int32)  (S : St) : Option (Int32 × St) :=
  gI 0 3 x0 S fun v6 => if v6 ≤ x3 then (gI 0 0 x0 S fun v67 => pI 0 0 x0 (v67 + x1) S fun S72 => some (x2, S72)) else (gR 0 4 x0 fun v14 => aR 14 v14 x3 fun v18 => gI 0 0 x0 S fun v20 => gk v18 2 <| cl (F_X4_endPeriods v18 (v20 + x1) S) fun r25 S25 => bd ((x2 + r25)) fun v29 => gR 0 4 x0 fun v31 => aR 14 v31 x3 fun v35 => gI 0 0 x0 S25 fun v37 => gI 0 0 x0 S25 fun v43 => gI 0 1 x0 S25 fun v49 => gI 0 2 x0 S25 fun v53 => gk v35 2 <| cl (F_X4_chargeLate v35 (v37 + (1 : Int32)) (v43 + x1) v49 v53 S25) fun _ S56 => rec4 x0 x1 v29 (x3 + 1) S56)
set_option maxRecDepth 20000 in
set_option maxHeartbeats 4000000 in
def L_X1_passDays_4  : Nat → Nat → Int32 → Int32 → Int32 → St → Option (Int32 × St)
  | 0, _, _, _, _, _ => none
  | n + 1, x0, x1, x2, x3, S => B_X1_passDays_4  (L_X1_passDays_4  n) x0 x1 x2 x3 S
set_option maxRecDepth 20000 in
set_option maxHeartbeats 4000000 in
def F_X1_passDays (c : Nat) (a1 : Int32) (S : St) : Option (Int32 × St) :=
  L_X1_passDays_4  6000 c a1 (0 : Int32) (0 : Int32) S
set_option maxRecDepth 20000 in
set_option maxHeartbeats 4000000 in
def J_X4_billsInArrears_25 (rec4 : (Nat → Int32 → Int32 → St → Option (Int32 × St))) (x0 : Nat) (x1 : Int32) (x2 : Int32)  (S : St) : Option (Int32 × St) :=
  rec4 x0 x1 (x2 + 1) S
set_option maxRecDepth 20000 in
set_option maxHeartbeats 4000000 in
def B_X4_billsInArrears_4 (rec4 : (Nat → Int32 → Int32 → St → Option (Int32 × St))) (x0 : Nat) (x1 : Int32) (x2 : Int32)  (S : St) : Option (Int32 × St) :=
  gI 2 12 x0 S fun v6 => if v6 < x2 then (some (x1, S)) else (gk x0 2 <| cl (F_X4_asks x0 x2 S) fun r14 S14 => if r14 ≤ (0 : Int64) then (J_X4_billsInArrears_25 rec4 x0 x1 x2 S14) else (J_X4_billsInArrears_25 rec4 x0 (x1 + 1) x2 S14))
set_option maxRecDepth 20000 in
set_option maxHeartbeats 4000000 in
def L_X4_billsInArrears_4  : Nat → Nat → Int32 → Int32 → St → Option (Int32 × St)
  | 0, _, _, _, _ => none
  | n + 1, x0, x1, x2, S => B_X4_billsInArrears_4  (L_X4_billsInArrears_4  n) x0 x1 x2 S
set_option maxRecDepth 20000 in
set_option maxHeartbeats 4000000 in
def F_X4_billsInArrears (c : Nat) (S : St) : Option (Int32 × St) :=
  L_X4_billsInArrears_4  6000 c (0 : Int32) (1 : Int32) S
set_option maxRecDepth 20000 in
set_option maxHeartbeats 4000000 in
def B_X1_billsInArrears_4 (rec4 : (Nat → Int32 → Int32 → St → Option (Int32 × St))) (x0 : Nat) (x1 : Int32) (x2 : Int32)  (S : St) : Option (Int32 × St) :=
  gI 0 3 x0 S fun v6 => if v6 ≤ x2 then (some (x1, S)) else (gR 0 4 x0 fun v14 => aR 14 v14 x2 fun v18 => gk v18 2 <| cl (F_X4_billsInArrears v18 S) fun r19 S19 => bd ((x1 + r19)) fun v23 => rec4 x0 v23 (x2 + 1) S19)
set_option maxRecDepth 20000 in
set_option maxHeartbeats 4000000 in
def L_X1_billsInArrears_4  : Nat → Nat → Int32 → Int32 → St → Option (Int32 × St)
  | 0, _, _, _, _ => none
  | n + 1, x0, x1, x2, S => B_X1_billsInArrears_4  (L_X1_billsInArrears_4  n) x0 x1 x2 S
set_option maxRecDepth 20000 in
set_option maxHeartbeats 4000000 in
def F_X1_billsInArrears (c : Nat) (S : St) : Option (Int32 × St) :=
  L_X1_billsInArrears_4  6000 c (0 : Int32) (0 : Int32) S
set_option maxRecDepth 20000 in
set_option maxHeartbeats 4000000 in
def B_X4_owed_4 (rec4 : (Nat → Int64 → Int32 → St → Option (Int64 × St))) (x0 : Nat) (x1 : Int64) (x3 : Int32)  (S : St) : Option (Int64 × St) :=
  gI 2 12 x0 S fun v6 => if v6 < x3 then (some (x1, S)) else (gk x0 2 <| cl (F_X4_asks x0 x3 S) fun r15 S15 => bd ((x1 + r15)) fun v19 => rec4 x0 v19 (x3 + 1) S15)
set_option maxRecDepth 20000 in
set_option maxHeartbeats 4000000 in
def L_X4_owed_4  : Nat → Nat → Int64 → Int32 → St → Option (Int64 × St)
  | 0, _, _, _, _ => none
  | n + 1, x0, x1, x3, S => B_X4_owed_4  (L_X4_owed_4  n) x0 x1 x3 S
set_option maxRecDepth 20000 in
set_option maxHeartbeats 4000000 in
def F_X4_owed (c : Nat) (S : St) : Option (Int64 × St) :=
  L_X4_owed_4  6000 c (0 : Int64) (1 : Int32) S
set_option maxRecDepth 20000 in
set_option maxHeartbeats 4000000 in
def J_X4_isSettled_23   (t0 : Int32) (S : St) : Option (Int32 × St) :=
  zr t0 S
set_option maxRecDepth 20000 in
set_option maxHeartbeats 4000000 in
def J_X4_isSettled_22    (S : St) : Option (Int32 × St) :=
  J_X4_isSettled_23  (0 : Int32) S
set_option maxRecDepth 20000 in
set_option maxHeartbeats 4000000 in
def F_X4_isSettled (c : Nat) (S : St) : Option (Int32 × St) :=
  gL 2 1 c S fun v1 => if ¬ v1 = (0 : Int64) then (J_X4_isSettled_22  S) else (gk c 2 <| cl (F_X4_owed c S) fun r10 S10 => if ¬ r10 = (0 : Int64) then (J_X4_isSettled_22  S10) else (J_X4_isSettled_23  (1 : Int32) S10))
set_option maxRecDepth 20000 in
set_option maxHeartbeats 4000000 in
def J_X1_settledLoans_27 (rec4 : (Nat → Int32 → Int32 → St → Option (Int32 × St))) (x0 : Nat) (x1 : Int32) (x2 : Int32)  (S : St) : Option (Int32 × St) :=
  rec4 x0 x1 (x2 + 1) S
set_option maxRecDepth 20000 in
set_option maxHeartbeats 4000000 in
def B_X1_settledLoans_4 (rec4 : (Nat → Int32 → Int32 → St → Option (Int32 × St))) (x0 : Nat) (x1 : Int32) (x2 : Int32)  (S : St) : Option (Int32 × St) :=
  gI 0 3 x0 S fun v6 => if v6 ≤ x2 then (some (x1, S)) else (gR 0 4 x0 fun v13 => aR 14 v13 x2 fun v17 => gk v17 2 <| cl (F_X4_isSettled v17 S) fun r18 S18 => if r18 = 0 then (J_X1_settledLoans_27 rec4 x0 x1 x2 S18) else (J_X1_settledLoans_27 rec4 x0 (x1 + 1) x2 S18))
set_option maxRecDepth 20000 in
set_option maxHeartbeats 4000000 in
def L_X1_settledLoans_4  : Nat → Nat → Int32 → Int32 → St → Option (Int32 × St)
  | 0, _, _, _, _ => none
  | n + 1, x0, x1, x2, S => B_X1_settledLoans_4  (L_X1_settledLoans_4  n) x0 x1 x2 S
set_option maxRecDepth 20000 in
set_option maxHeartbeats 4000000 in
def F_X1_settledLoans (c : Nat) (S : St) : Option (Int32 × St) :=
  L_X1_settledLoans_4  6000 c (0 : Int32) (0 : Int32) S
set_option maxRecDepth 20000 in
set_option maxHeartbeats 4000000 in
def F_X3_takeLoan (c : Nat) (a1 : Int32) (S : St) : Option (Unit × St) :=
  pI 1 0 c (1 : Int32) S fun S2 => pI 1 1 c a1 S2 fun S7 => some ((), S7)
set_option maxRecDepth 20000 in
set_option maxHeartbeats 4000000 in
def F_X3_takeBill (c : Nat) (a1 : Int32) (a2 : Int64) (S : St) : Option (Unit × St) :=
  pI 1 0 c (2 : Int32) S fun S2 => pI 1 1 c a1 S2 fun S7 => pL 1 3 c a2 S7 fun S12 => some ((), S12)
set_option maxRecDepth 20000 in
set_option maxHeartbeats 4000000 in
def B_J7_fill_d0a16_6 (rec6 : (Nat → Int64 → Int32 → Int32 → St → Option (Unit × St))) (x0 : Nat) (x1 : Int64) (x3 : Int32) (x4 : Int32)  (S : St) : Option (Unit × St) :=
  if x4 ≤ x3 then (some ((), S)) else (sJ x0 x3 x1 S fun S15 => rec6 x0 x1 (x3 + 1) x4 S15)
set_option maxRecDepth 20000 in
set_option maxHeartbeats 4000000 in
def L_J7_fill_d0a16_6  : Nat → Nat → Int64 → Int32 → Int32 → St → Option (Unit × St)
  | 0, _, _, _, _, _ => none
  | n + 1, x0, x1, x3, x4, S => B_J7_fill_d0a16_6  (L_J7_fill_d0a16_6  n) x0 x1 x3 x4 S
set_option maxRecDepth 20000 in
set_option maxHeartbeats 4000000 in
def F_J7_fill_d0a16 (a1 : Nat) (a2 : Int64) (S : St) : Option (Unit × St) :=
  aL a1 fun v3 => L_J7_fill_d0a16_6  6000 a1 a2 (0 : Int32) v3 S
set_option maxRecDepth 20000 in
set_option maxHeartbeats 4000000 in
def F_X3_takeRow (c : Nat) (a1 : Int32) (S : St) : Option (Unit × St) :=
  pI 1 0 c (3 : Int32) S fun S2 => pI 1 2 c a1 S2 fun S7 => gR 1 4 c fun v11 => cl (F_J7_fill_d0a16 v11 (0 : Int64) S7) fun _ S15 => some ((), S15)
set_option maxRecDepth 20000 in
set_option maxHeartbeats 4000000 in
def F_X4_payBill (c : Nat) (a1 : Int32) (a2 : Int64) (S : St) : Option (Int64 × St) :=
  gR 2 15 c fun v2 => aJ v2 a1 S fun v6 => cl (F_J9_min_f86c9 a2 v6 S) fun r7 S7 => gR 2 16 c fun v17 => aJ v17 a1 S7 fun v21 => cl (F_J9_min_f86c9 (a2 - r7) v21 S7) fun r22 S22 => gR 2 17 c fun v35 => aJ v35 a1 S22 fun v39 => cl (F_J9_min_f86c9 ((a2 - r7) - r22) v39 S22) fun r40 S40 => gR 2 15 c fun v46 => aJ v46 a1 S40 fun v51 => sJ v46 a1 (v51 - r7) S40 fun S55 => gR 2 16 c fun v57 => aJ v57 a1 S55 fun v62 => sJ v57 a1 (v62 - r22) S55 fun S66 => gR 2 17 c fun v68 => aJ v68 a1 S66 fun v73 => sJ v68 a1 (v73 - r40) S66 fun S77 => gL 2 3 c S77 fun v80 => pL 2 3 c (v80 + r7) S77 fun S86 => gL 2 4 c S86 fun v91 => pL 2 4 c (v91 + r22) S86 fun S97 => gL 2 5 c S97 fun v102 => pL 2 5 c (v102 + r40) S97 fun S108 => some ((((a2 - r7) - r22) - r40), S108)
set_option maxRecDepth 20000 in
set_option maxHeartbeats 4000000 in
def J_X4_receive_85  (x3 : Int64) (x5 : Int64)  (S : St) : Option (Int64 × St) :=
  some ((x3 - x5), S)
set_option maxRecDepth 20000 in
set_option maxHeartbeats 4000000 in
def J_X4_receive_34  (x0 : Nat) (x3 : Int64)  (S : St) : Option (Int64 × St) :=
  gL 2 1 x0 S fun v36 => cl (F_J9_min_f86c9 x3 v36 S) fun r39 S39 => gL 2 1 x0 S39 fun v46 => pL 2 1 x0 (v46 - r39) S39 fun S52 => gL 2 5 x0 S52 fun v57 => pL 2 5 x0 (v57 + r39) S52 fun S63 => if r39 ≤ (0 : Int64) then (J_X4_receive_85  x3 r39 S63) else (gI 2 10 x0 S63 fun v74 => if ¬ v74 = (1 : Int32) then (J_X4_receive_85  x3 r39 S63) else (gk x0 2 <| cl (F_X4_findLevel x0 S63) fun _ S82 => J_X4_receive_85  x3 r39 S82))
set_option maxRecDepth 20000 in
set_option maxHeartbeats 4000000 in
def B_X4_receive_5 (rec5 : (Nat → Int64 → Int32 → St → Option (Int64 × St))) (x0 : Nat) (x3 : Int64) (x5 : Int32)  (S : St) : Option (Int64 × St) :=
  gI 2 12 x0 S fun v8 => if v8 < x5 then (J_X4_receive_34  x0 x3 S) else (if x3 ≤ (0 : Int64) then (J_X4_receive_34  x0 x3 S) else (gk x0 2 <| cl (F_X4_payBill x0 x5 x3 S) fun r24 S24 => rec5 x0 r24 (x5 + 1) S24))
set_option maxRecDepth 20000 in
set_option maxHeartbeats 4000000 in
def L_X4_receive_5  : Nat → Nat → Int64 → Int32 → St → Option (Int64 × St)
  | 0, _, _, _, _ => none
  | n + 1, x0, x3, x5, S => B_X4_receive_5  (L_X4_receive_5  n) x0 x3 x5 S
set_option maxRecDepth 20000 in
set_option maxHeartbeats 4000000 in
def F_X4_receive (c : Nat) (a1 : Int64) (S : St) : Option (Int64 × St) :=
  L_X4_receive_5  6000 c a1 (1 : Int32) S
set_option maxRecDepth 20000 in
set_option maxHeartbeats 4000000 in
def B_X4_giveUp_7 (rec7 : (Nat → Int64 → Int32 → St → Option (Int64 × St))) (x0 : Nat) (x1 : Int64) (x3 : Int32)  (S : St) : Option (Int64 × St) :=
  gI 2 12 x0 S fun v9 => if v9 < x3 then (pL 2 1 x0 (0 : Int64) S fun S32 => gk x0 2 <| cl (F_X4_clearArrears x0 S32) fun _ S36 => gL 2 6 x0 S36 fun v41 => pL 2 6 x0 (v41 + x1) S36 fun S46 => some (x1, S46)) else (gR 2 17 x0 fun v17 => aJ v17 x3 S fun v21 => bd ((x1 + v21)) fun v23 => rec7 x0 v23 (x3 + 1) S)
set_option maxRecDepth 20000 in
set_option maxHeartbeats 4000000 in
def L_X4_giveUp_7  : Nat → Nat → Int64 → Int32 → St → Option (Int64 × St)
  | 0, _, _, _, _ => none
  | n + 1, x0, x1, x3, S => B_X4_giveUp_7  (L_X4_giveUp_7  n) x0 x1 x3 S
set_option maxRecDepth 20000 in
set_option maxHeartbeats 4000000 in
def F_X4_giveUp (c : Nat) (S : St) : Option (Int64 × St) :=
  gL 2 1 c S fun v1 => L_X4_giveUp_7  6000 c v1 (1 : Int32) S
set_option maxRecDepth 20000 in
set_option maxHeartbeats 4000000 in
def J_X4_periodOfBill_32 (rec4 : (Nat → Int32 → Int32 → Int32 → St → Option (Int32 × St))) (x0 : Nat) (x1 : Int32) (x2 : Int32) (x3 : Int32)  (S : St) : Option (Int32 × St) :=
  rec4 x0 x1 x2 (x3 + 1) S
set_option maxRecDepth 20000 in
set_option maxHeartbeats 4000000 in
def B_X4_periodOfBill_4 (rec4 : (Nat → Int32 → Int32 → Int32 → St → Option (Int32 × St))) (x0 : Nat) (x1 : Int32) (x2 : Int32) (x3 : Int32)  (S : St) : Option (Int32 × St) :=
  gI 2 12 x0 S fun v6 => if v6 < x3 then (some ((0 : Int32), S)) else (gk x0 2 <| cl (F_X4_asks x0 x3 S) fun r14 S14 => if r14 ≤ (0 : Int64) then (J_X4_periodOfBill_32 rec4 x0 x1 x2 x3 S14) else (if ¬ x2 = x1 then (J_X4_periodOfBill_32 rec4 x0 x1 (x2 + 1) x3 S14) else (some (x3, S14))))
set_option maxRecDepth 20000 in
set_option maxHeartbeats 4000000 in
def L_X4_periodOfBill_4  : Nat → Nat → Int32 → Int32 → Int32 → St → Option (Int32 × St)
  | 0, _, _, _, _, _ => none
  | n + 1, x0, x1, x2, x3, S => B_X4_periodOfBill_4  (L_X4_periodOfBill_4  n) x0 x1 x2 x3 S
set_option maxRecDepth 20000 in
set_option maxHeartbeats 4000000 in
def F_X4_periodOfBill (c : Nat) (a1 : Int32) (S : St) : Option (Int32 × St) :=
  L_X4_periodOfBill_4  6000 c a1 (0 : Int32) (1 : Int32) S
set_option maxRecDepth 20000 in
set_option maxHeartbeats 4000000 in
def J_X4_daysLate_22   (t0 : Int32) (S : St) : Option (Int32 × St) :=
  some (t0, S)
set_option maxRecDepth 20000 in
set_option maxHeartbeats 4000000 in
def F_X4_daysLate (c : Nat) (a1 : Int32) (S : St) : Option (Int32 × St) :=
  gk c 2 <| cl (F_X4_periodOfBill c (0 : Int32) S) fun r2 S2 => if ¬ r2 = 0 then (gR 2 13 c fun v16 => aI v16 r2 S2 fun v20 => J_X4_daysLate_22  (a1 - v20) S2) else (J_X4_daysLate_22  (0 : Int32) S2)
set_option maxRecDepth 20000 in
set_option maxHeartbeats 4000000 in
def B_X5_follow_29 (rec29 : (Nat → Nat → Int64 → Int32 → St → Option (Unit × St))) (x0 : Nat) (x1 : Nat) (x2 : Int64) (x4 : Int32)  (S : St) : Option (Unit × St) :=
  gI 3 1 x0 S fun v32 => if v32 < x4 then (some ((), S)) else (gR 3 2 x0 fun v39 => gk x1 2 <| cl (F_X4_interestOf x1 x4 x2 S) fun r48 S48 => sJ v39 x4 r48 S48 fun S51 => gR 3 3 x0 fun v53 => gR 3 2 x0 fun v63 => aJ v63 x4 S51 fun v68 => gk x1 2 <| cl (F_X4_principalOf x1 x4 x2 v68 S51) fun r69 S69 => sJ v53 x4 r69 S69 fun S72 => gR 3 3 x0 fun v75 => aJ v75 x4 S72 fun v80 => bd ((x2 - v80)) fun v82 => gR 3 4 x0 fun v84 => sJ v84 x4 v82 S72 fun S90 => rec29 x0 x1 v82 (x4 + 1) S90)
set_option maxRecDepth 20000 in
set_option maxHeartbeats 4000000 in
def L_X5_follow_29  : Nat → Nat → Nat → Int64 → Int32 → St → Option (Unit × St)
  | 0, _, _, _, _, _ => none
  | n + 1, x0, x1, x2, x4, S => B_X5_follow_29  (L_X5_follow_29  n) x0 x1 x2 x4 S
set_option maxRecDepth 20000 in
set_option maxHeartbeats 4000000 in
def F_X5_follow (c : Nat) (a1 : Nat) (S : St) : Option (Unit × St) :=
  gI 2 12 a1 S fun v2 => pI 3 0 c v2 S fun S5 => gI 2 11 a1 S5 fun v10 => pI 3 1 c v10 S5 fun S13 => gL 2 1 a1 S13 fun v17 => gI 3 0 c S13 fun v22 => bd ((v22 + (1 : Int32))) fun v27 => L_X5_follow_29  6000 c a1 v17 v27 S13
set_option maxRecDepth 20000 in
set_option maxHeartbeats 4000000 in
def F_X5_flow (c : Nat) (a1 : Int32) (S : St) : Option (Int64 × St) :=
  gR 3 2 c fun v1 => aJ v1 a1 S fun v5 => gR 3 3 c fun v7 => aJ v7 a1 S fun v11 => some ((v5 + v11), S)
set_option maxRecDepth 20000 in
set_option maxHeartbeats 4000000 in
def J_X5_bills_30 (rec9 : (Nat → Int32 → Int32 → St → Option (Int32 × St))) (x0 : Nat) (x1 : Int32) (x2 : Int32)  (S : St) : Option (Int32 × St) :=
  rec9 x0 x1 (x2 + 1) S
set_option maxRecDepth 20000 in
set_option maxHeartbeats 4000000 in
def B_X5_bills_9 (rec9 : (Nat → Int32 → Int32 → St → Option (Int32 × St))) (x0 : Nat) (x1 : Int32) (x2 : Int32)  (S : St) : Option (Int32 × St) :=
  gI 3 1 x0 S fun v11 => if v11 < x2 then (some (x1, S)) else (gk x0 3 <| cl (F_X5_flow x0 x2 S) fun r19 S19 => if r19 ≤ (0 : Int64) then (J_X5_bills_30 rec9 x0 x1 x2 S19) else (J_X5_bills_30 rec9 x0 (x1 + 1) x2 S19))
set_option maxRecDepth 20000 in
set_option maxHeartbeats 4000000 in
def L_X5_bills_9  : Nat → Nat → Int32 → Int32 → St → Option (Int32 × St)
  | 0, _, _, _, _ => none
  | n + 1, x0, x1, x2, S => B_X5_bills_9  (L_X5_bills_9  n) x0 x1 x2 S
set_option maxRecDepth 20000 in
set_option maxHeartbeats 4000000 in
def F_X5_bills (c : Nat) (S : St) : Option (Int32 × St) :=
  gI 3 0 c S fun v3 => bd ((v3 + (1 : Int32))) fun v8 => L_X5_bills_9  6000 c (0 : Int32) v8 S
set_option maxRecDepth 20000 in
set_option maxHeartbeats 4000000 in
def J_X5_periodOfBill_37 (rec9 : (Nat → Int32 → Int32 → Int32 → St → Option (Int32 × St))) (x0 : Nat) (x1 : Int32) (x2 : Int32) (x3 : Int32)  (S : St) : Option (Int32 × St) :=
  rec9 x0 x1 x2 (x3 + 1) S
set_option maxRecDepth 20000 in
set_option maxHeartbeats 4000000 in
def B_X5_periodOfBill_9 (rec9 : (Nat → Int32 → Int32 → Int32 → St → Option (Int32 × St))) (x0 : Nat) (x1 : Int32) (x2 : Int32) (x3 : Int32)  (S : St) : Option (Int32 × St) :=
  gI 3 1 x0 S fun v11 => if v11 < x3 then (some ((0 : Int32), S)) else (gk x0 3 <| cl (F_X5_flow x0 x3 S) fun r19 S19 => if r19 ≤ (0 : Int64) then (J_X5_periodOfBill_37 rec9 x0 x1 x2 x3 S19) else (if ¬ x2 = x1 then (J_X5_periodOfBill_37 rec9 x0 x1 (x2 + 1) x3 S19) else (some (x3, S19))))
set_option maxRecDepth 20000 in
set_option maxHeartbeats 4000000 in
def L_X5_periodOfBill_9  : Nat → Nat → Int32 → Int32 → Int32 → St → Option (Int32 × St)
  | 0, _, _, _, _, _ => none
  | n + 1, x0, x1, x2, x3, S => B_X5_periodOfBill_9  (L_X5_periodOfBill_9  n) x0 x1 x2 x3 S
set_option maxRecDepth 20000 in
set_option maxHeartbeats 4000000 in
def F_X5_periodOfBill (c : Nat) (a1 : Int32) (S : St) : Option (Int32 × St) :=
  gI 3 0 c S fun v3 => bd ((v3 + (1 : Int32))) fun v8 => L_X5_periodOfBill_9  6000 c a1 (0 : Int32) v8 S
set_option maxRecDepth 20000 in
set_option maxHeartbeats 4000000 in
def B_X5_totalInterest_9 (rec9 : (Nat → Int64 → Int32 → St → Option (Int64 × St))) (x0 : Nat) (x1 : Int64) (x3 : Int32)  (S : St) : Option (Int64 × St) :=
  gI 3 1 x0 S fun v11 => if v11 < x3 then (some (x1, S)) else (gR 3 2 x0 fun v19 => aJ v19 x3 S fun v23 => bd ((x1 + v23)) fun v25 => rec9 x0 v25 (x3 + 1) S)
set_option maxRecDepth 20000 in
set_option maxHeartbeats 4000000 in
def L_X5_totalInterest_9  : Nat → Nat → Int64 → Int32 → St → Option (Int64 × St)
  | 0, _, _, _, _ => none
  | n + 1, x0, x1, x3, S => B_X5_totalInterest_9  (L_X5_totalInterest_9  n) x0 x1 x3 S
set_option maxRecDepth 20000 in
set_option maxHeartbeats 4000000 in
def F_X5_totalInterest (c : Nat) (S : St) : Option (Int64 × St) :=
  gI 3 0 c S fun v3 => bd ((v3 + (1 : Int32))) fun v8 => L_X5_totalInterest_9  6000 c (0 : Int64) v8 S
set_option maxRecDepth 20000 in
set_option maxHeartbeats 4000000 in
def B_X5_greatestFlow_9 (rec9 : (Nat → Int64 → Int32 → St → Option (Int64 × St))) (x0 : Nat) (x1 : Int64) (x3 : Int32)  (S : St) : Option (Int64 × St) :=
  gI 3 1 x0 S fun v11 => if v11 < x3 then (some (x1, S)) else (gk x0 3 <| cl (F_X5_flow x0 x3 S) fun r20 S20 => cl (F_J9_max_f86c9 x1 r20 S20) fun r23 S23 => rec9 x0 r23 (x3 + 1) S23)
set_option maxRecDepth 20000 in
set_option maxHeartbeats 4000000 in
def L_X5_greatestFlow_9  : Nat → Nat → Int64 → Int32 → St → Option (Int64 × St)
  | 0, _, _, _, _ => none
  | n + 1, x0, x1, x3, S => B_X5_greatestFlow_9  (L_X5_greatestFlow_9  n) x0 x1 x3 S
set_option maxRecDepth 20000 in
set_option maxHeartbeats 4000000 in
def F_X5_greatestFlow (c : Nat) (S : St) : Option (Int64 × St) :=
  gI 3 0 c S fun v3 => bd ((v3 + (1 : Int32))) fun v8 => L_X5_greatestFlow_9  6000 c (0 : Int64) v8 S
set_option maxRecDepth 20000 in
set_option maxHeartbeats 4000000 in
def J_X5_lastWithPrincipal_35 (rec9 : (Nat → Int32 → Int32 → St → Option (Int32 × St))) (x0 : Nat) (x1 : Int32) (x2 : Int32)  (S : St) : Option (Int32 × St) :=
  rec9 x0 x1 (x2 + 1) S
set_option maxRecDepth 20000 in
set_option maxHeartbeats 4000000 in
def B_X5_lastWithPrincipal_9 (rec9 : (Nat → Int32 → Int32 → St → Option (Int32 × St))) (x0 : Nat) (x1 : Int32) (x2 : Int32)  (S : St) : Option (Int32 × St) :=
  gI 3 1 x0 S fun v11 => if v11 < x2 then (some (x1, S)) else (gR 3 3 x0 fun v18 => aJ v18 x2 S fun v22 => if v22 ≤ (0 : Int64) then (J_X5_lastWithPrincipal_35 rec9 x0 x1 x2 S) else (gI 3 0 x0 S fun v30 => bd ((x2 - v30)) fun v34 => J_X5_lastWithPrincipal_35 rec9 x0 v34 x2 S))
set_option maxRecDepth 20000 in
set_option maxHeartbeats 4000000 in
def L_X5_lastWithPrincipal_9  : Nat → Nat → Int32 → Int32 → St → Option (Int32 × St)
  | 0, _, _, _, _ => none
  | n + 1, x0, x1, x2, S => B_X5_lastWithPrincipal_9  (L_X5_lastWithPrincipal_9  n) x0 x1 x2 S
set_option maxRecDepth 20000 in
set_option maxHeartbeats 4000000 in
def F_X5_lastWithPrincipal (c : Nat) (S : St) : Option (Int32 × St) :=
  gI 3 0 c S fun v3 => bd ((v3 + (1 : Int32))) fun v8 => L_X5_lastWithPrincipal_9  6000 c (0 : Int32) v8 S
set_option maxRecDepth 20000 in
set_option maxHeartbeats 4000000 in
def B_X5_worth_8 (rec8 : (Nat → UInt64 → UInt64 → Int32 → St → Option (UInt64 × St))) (x0 : Nat) (x1 : UInt64) (x3 : UInt64) (x5 : Int32)  (S : St) : Option (UInt64 × St) :=
  gI 3 0 x0 S fun v11 => if x5 ≤ v11 then (some (x3, S)) else (gk x0 3 <| cl (F_X5_flow x0 x5 S) fun r21 S21 => dq (FP.dadd x3 (FP.l2d r21)) fun v25 => dq (FP.dadd FP.dconst1 x1) fun v28 => dq (FP.ddiv v25 v28) fun v29 => rec8 x0 x1 v29 (x5 + (-1)) S21)
set_option maxRecDepth 20000 in
set_option maxHeartbeats 4000000 in
def L_X5_worth_8  : Nat → Nat → UInt64 → UInt64 → Int32 → St → Option (UInt64 × St)
  | 0, _, _, _, _, _ => none
  | n + 1, x0, x1, x3, x5, S => B_X5_worth_8  (L_X5_worth_8  n) x0 x1 x3 x5 S
set_option maxRecDepth 20000 in
set_option maxHeartbeats 4000000 in
def F_X5_worth (c : Nat) (a1 : UInt64) (S : St) : Option (UInt64 × St) :=
  gI 3 1 c S fun v3 => L_X5_worth_8  6000 c a1 FP.dconst0 v3 S
set_option maxRecDepth 20000 in
set_option maxHeartbeats 4000000 in
def B_X5_worthByNumber_8 (rec8 : (Nat → UInt64 → UInt64 → Int32 → St → Option (UInt64 × St))) (x0 : Nat) (x1 : UInt64) (x3 : UInt64) (x5 : Int32)  (S : St) : Option (UInt64 × St) :=
  gI 3 0 x0 S fun v11 => if x5 ≤ v11 then (some (x3, S)) else (gk x0 3 <| cl (F_X5_flow x0 x5 S) fun r21 S21 => gI 3 0 x0 S21 fun v27 => dq (FP.dadd x3 (FP.l2d (r21 * (Int32.toInt64 (x5 - v27))))) fun v34 => dq (FP.dadd FP.dconst1 x1) fun v37 => dq (FP.ddiv v34 v37) fun v38 => rec8 x0 x1 v38 (x5 + (-1)) S21)
set_option maxRecDepth 20000 in
set_option maxHeartbeats 4000000 in
def L_X5_worthByNumber_8  : Nat → Nat → UInt64 → UInt64 → Int32 → St → Option (UInt64 × St)
  | 0, _, _, _, _, _ => none
  | n + 1, x0, x1, x3, x5, S => B_X5_worthByNumber_8  (L_X5_worthByNumber_8  n) x0 x1 x3 x5 S
set_option maxRecDepth 20000 in
set_option maxHeartbeats 4000000 in
def F_X5_worthByNumber (c : Nat) (a1 : UInt64) (S : St) : Option (UInt64 × St) :=
  gI 3 1 c S fun v3 => L_X5_worthByNumber_8  6000 c a1 FP.dconst0 v3 S
set_option maxRecDepth 20000 in
set_option maxHeartbeats 4000000 in
def J_X5_yieldBy_46 (rec8 : (Nat → UInt64 → UInt64 → UInt64 → Int32 → St → Option (UInt64 × St))) (x0 : Nat) (x1 : UInt64) (x3 : UInt64) (x5 : UInt64) (x7 : Int32)  (S : St) : Option (UInt64 × St) :=
  rec8 x0 x1 x3 x5 (x7 + 1) S
set_option maxRecDepth 20000 in
set_option maxHeartbeats 4000000 in
def B_X5_yieldBy_8 (rec8 : (Nat → UInt64 → UInt64 → UInt64 → Int32 → St → Option (UInt64 × St))) (x0 : Nat) (x1 : UInt64) (x3 : UInt64) (x5 : UInt64) (x7 : Int32)  (S : St) : Option (UInt64 × St) :=
  if (50 : Int32) ≤ x7 then (some (x3, S)) else (dq (FP.dadd x3 x5) fun v18 => dq (FP.ddiv v18 (4611686018427387904 : UInt64)) fun v22 => gk x0 3 <| cl (F_X5_worth x0 v22 S) fun r28 S28 => if dx r28 x1 .l ≤ 0 then (J_X5_yieldBy_46 rec8 x0 x1 x3 v22 x7 S28) else (J_X5_yieldBy_46 rec8 x0 x1 v22 x5 x7 S28))
set_option maxRecDepth 20000 in
set_option maxHeartbeats 4000000 in
def L_X5_yieldBy_8  : Nat → Nat → UInt64 → UInt64 → UInt64 → Int32 → St → Option (UInt64 × St)
  | 0, _, _, _, _, _, _ => none
  | n + 1, x0, x1, x3, x5, x7, S => B_X5_yieldBy_8  (L_X5_yieldBy_8  n) x0 x1 x3 x5 x7 S
set_option maxRecDepth 20000 in
set_option maxHeartbeats 4000000 in
def F_X5_yieldBy (c : Nat) (a1 : UInt64) (S : St) : Option (UInt64 × St) :=
  L_X5_yieldBy_8  6000 c a1 FP.dconst0 FP.dconst1 (0 : Int32) S
set_option maxRecDepth 20000 in
set_option maxHeartbeats 4000000 in
def J_X6_here_31   (t0 : Int32) (S : St) : Option (Int32 × St) :=
  some (t0, S)
set_option maxRecDepth 20000 in
set_option maxHeartbeats 4000000 in
def J_X6_here_30    (S : St) : Option (Int32 × St) :=
  J_X6_here_31  (-1 : Int32) S
set_option maxRecDepth 20000 in
set_option maxHeartbeats 4000000 in
def F_X6_here (c : Nat) (S : St) : Option (Int32 × St) :=
  gI 4 1 c S fun v1 => if v1 < 0 then (J_X6_here_30  S) else (gI 4 1 c S fun v8 => gI 4 0 c S fun v12 => if v12 ≤ v8 then (J_X6_here_30  S) else (gR 4 3 c fun v19 => gI 4 1 c S fun v23 => aI v19 v23 S fun v26 => J_X6_here_31  v26 S))
set_option maxRecDepth 20000 in
set_option maxHeartbeats 4000000 in
def J_X6_numbersOf_101    (S : St) : Option (Int32 × St) :=
  some ((1 : Int32), S)
set_option maxRecDepth 20000 in
set_option maxHeartbeats 4000000 in
def J_X6_numbersOf_103    (S : St) : Option (Int32 × St) :=
  some ((0 : Int32), S)
set_option maxRecDepth 20000 in
set_option maxHeartbeats 4000000 in
def J_X6_numbersOf_99    (S : St) : Option (Int32 × St) :=
  some ((2 : Int32), S)
set_option maxRecDepth 20000 in
set_option maxHeartbeats 4000000 in
def F_X6_numbersOf (a1 : Int32) (S : St) : Option (Int32 × St) :=
  sw a1 (J_X6_numbersOf_103  S) [(100, J_X6_numbersOf_101  S), (101, J_X6_numbersOf_103  S), (102, J_X6_numbersOf_101  S), (103, J_X6_numbersOf_101  S), (104, J_X6_numbersOf_103  S), (105, J_X6_numbersOf_103  S), (106, J_X6_numbersOf_103  S), (107, J_X6_numbersOf_103  S), (108, some ((6 : Int32), S)), (109, J_X6_numbersOf_103  S), (110, J_X6_numbersOf_103  S), (111, J_X6_numbersOf_103  S), (112, J_X6_numbersOf_99  S), (113, J_X6_numbersOf_103  S), (114, J_X6_numbersOf_99  S), (115, J_X6_numbersOf_103  S), (116, J_X6_numbersOf_103  S), (117, J_X6_numbersOf_103  S), (118, J_X6_numbersOf_103  S), (119, J_X6_numbersOf_101  S)]
set_option maxRecDepth 20000 in
set_option maxHeartbeats 4000000 in
def J_X6_readNumber_94   (t0 : Int32) (S : St) : Option (Int32 × St) :=
  zr t0 S
set_option maxRecDepth 20000 in
set_option maxHeartbeats 4000000 in
def J_X6_readNumber_78  (x0 : Nat) (x1 : Int32) (x2 : Int32) (x3 : Int32)  (S : St) : Option (Int32 × St) :=
  gR 4 4 x0 fun v79 => sI v79 x1 x2 S fun S84 => if x3 ≤ 0 then (J_X6_readNumber_94  (0 : Int32) S84) else (J_X6_readNumber_94  (1 : Int32) S84)
set_option maxRecDepth 20000 in
set_option maxHeartbeats 4000000 in
def B_X6_readNumber_25 (rec25 : (Nat → Int32 → Int32 → Int32 → St → Option (Int32 × St))) (x0 : Nat) (x1 : Int32) (x2 : Int32) (x3 : Int32)  (S : St) : Option (Int32 × St) :=
  if (9 : Int32) ≤ x3 then (J_X6_readNumber_78  x0 x1 x2 x3 S) else (gk x0 4 <| cl (F_X6_here x0 S) fun r32 S32 => if r32 < (48 : Int32) then (J_X6_readNumber_78  x0 x1 x2 x3 S32) else (gk x0 4 <| cl (F_X6_here x0 S32) fun r41 S41 => if (57 : Int32) < r41 then (J_X6_readNumber_78  x0 x1 x2 x3 S41) else (gk x0 4 <| cl (F_X6_here x0 S41) fun r54 S54 => bd ((((x2 * (10 : Int32)) + r54) - (48 : Int32))) fun v61 => gI 4 1 x0 S54 fun v67 => pI 4 1 x0 (v67 + (1 : Int32)) S54 fun S72 => rec25 x0 x1 v61 (x3 + 1) S72)))
set_option maxRecDepth 20000 in
set_option maxHeartbeats 4000000 in
def L_X6_readNumber_25  : Nat → Nat → Int32 → Int32 → Int32 → St → Option (Int32 × St)
  | 0, _, _, _, _, _ => none
  | n + 1, x0, x1, x2, x3, S => B_X6_readNumber_25  (L_X6_readNumber_25  n) x0 x1 x2 x3 S
set_option maxRecDepth 20000 in
set_option maxHeartbeats 4000000 in
def F_X6_readNumber (c : Nat) (a1 : Int32) (S : St) : Option (Int32 × St) :=
  gk c 4 <| cl (F_X6_here c S) fun r1 S1 => if r1 = (32 : Int32) then (gI 4 1 c S1 fun v13 => pI 4 1 c (v13 + (1 : Int32)) S1 fun S18 => L_X6_readNumber_25  6000 c a1 (0 : Int32) (0 : Int32) S18) else (zr (0 : Int32) S1)
set_option maxRecDepth 20000 in
set_option maxHeartbeats 4000000 in
def B_X6_readLine_34 (rec34 : (Nat → Int32 → Int32 → St → Option (Int32 × St))) (x0 : Nat) (x1 : Int32) (x2 : Int32)  (S : St) : Option (Int32 × St) :=
  if x1 ≤ x2 then (zr (1 : Int32) S) else (gk x0 4 <| cl (F_X6_readNumber x0 x2 S) fun r41 S41 => if ¬ r41 = 0 then (rec34 x0 x1 (x2 + 1) S41) else (zr (0 : Int32) S41))
set_option maxRecDepth 20000 in
set_option maxHeartbeats 4000000 in
def L_X6_readLine_34  : Nat → Nat → Int32 → Int32 → St → Option (Int32 × St)
  | 0, _, _, _, _ => none
  | n + 1, x0, x1, x2, S => B_X6_readLine_34  (L_X6_readLine_34  n) x0 x1 x2 S
set_option maxRecDepth 20000 in
set_option maxHeartbeats 4000000 in
def F_X6_readLine (c : Nat) (S : St) : Option (Int32 × St) :=
  gk c 4 <| cl (F_X6_here c S) fun r2 S2 => pI 4 2 c r2 S2 fun S5 => gI 4 2 c S5 fun v9 => cl (F_X6_numbersOf v9 S5) fun r12 S12 => if ¬ r12 = 0 then (gI 4 1 c S12 fun v24 => pI 4 1 c (v24 + (1 : Int32)) S12 fun S29 => L_X6_readLine_34  6000 c r12 (0 : Int32) S29) else (zr (0 : Int32) S12)
set_option maxRecDepth 20000 in
set_option maxHeartbeats 4000000 in
def B_X6_placeOfFault_7 (rec7 : (Nat → Int32 → St → Option (Int32 × St))) (x0 : Nat) (x1 : Int32)  (S : St) : Option (Int32 × St) :=
  if (120 : Int32) ≤ x1 then (gI 4 1 x0 S fun v69 => some (v69, S)) else (gk x0 4 <| cl (F_X6_readLine x0 S) fun r14 S14 => if ¬ r14 = 0 then (gI 4 1 x0 S14 fun v26 => gI 4 0 x0 S14 fun v30 => if v26 < v30 then (gk x0 4 <| cl (F_X6_here x0 S14) fun r39 S39 => if r39 = (59 : Int32) then (gI 4 1 x0 S39 fun v54 => pI 4 1 x0 (v54 + (1 : Int32)) S39 fun S59 => rec7 x0 (x1 + 1) S59) else (gI 4 1 x0 S39 fun v48 => some (v48, S39))) else (some ((-1 : Int32), S14))) else (gI 4 1 x0 S14 fun v21 => some (v21, S14)))
set_option maxRecDepth 20000 in
set_option maxHeartbeats 4000000 in
def L_X6_placeOfFault_7  : Nat → Nat → Int32 → St → Option (Int32 × St)
  | 0, _, _, _ => none
  | n + 1, x0, x1, S => B_X6_placeOfFault_7  (L_X6_placeOfFault_7  n) x0 x1 S
set_option maxRecDepth 20000 in
set_option maxHeartbeats 4000000 in
def F_X6_placeOfFault (c : Nat) (S : St) : Option (Int32 × St) :=
  pI 4 1 c (0 : Int32) S fun S2 => L_X6_placeOfFault_7  6000 c (0 : Int32) S2
set_option maxRecDepth 20000 in
set_option maxHeartbeats 4000000 in
def F_X7_isDay (a1 : Int32) (S : St) : Option (Int32 × St) :=
  cl (F_X7_isWithin a1 (0 : Int32) (36524 : Int32) S) fun r4 S4 => zr r4 S4
set_option maxRecDepth 20000 in
set_option maxHeartbeats 4000000 in
def J_X7_date_83   (t0 : Int32) (S : St) : Option (Int32 × St) :=
  some (t0, S)
set_option maxRecDepth 20000 in
set_option maxHeartbeats 4000000 in
def F_X7_date (c : Nat) (a1 : Int32) (a2 : Int32) (S : St) : Option (Int32 × St) :=
  cl (F_X7_isDay a1 S) fun r1 S1 => if ¬ r1 = 0 then (cl (F_X2_monthOf a1 S1) fun r10 S10 => sw a2 (some ((-1 : Int32), S10)) [(0, some (((2000 : Int32) + (r10 / (12 : Int32))), S10)), (1, some (((1 : Int32) + (r10 - r10 / (12 : Int32) * (12 : Int32))), S10)), (2, cl (F_X2_firstOf r10 S10) fun r64 S64 => some ((((1 : Int32) + a1) - r64), S64)), (3, if ¬ ((r10 / (12 : Int32)) - (r10 / (12 : Int32)) / (4 : Int32) * (4 : Int32)) = 0 then (J_X7_date_83  (0 : Int32) S10) else (J_X7_date_83  (1 : Int32) S10))]) else (some ((-1 : Int32), S1))
set_option maxRecDepth 20000 in
set_option maxHeartbeats 4000000 in
def J_X7_dayOf_23    (S : St) : Option (Int32 × St) :=
  some ((-1 : Int32), S)
set_option maxRecDepth 20000 in
set_option maxHeartbeats 4000000 in
def J_X7_dayOf_65   (t0 : Int32) (S : St) : Option (Int32 × St) :=
  some (t0, S)
set_option maxRecDepth 20000 in
set_option maxHeartbeats 4000000 in
def F_X7_dayOf (c : Nat) (a1 : Int32) (a2 : Int32) (a3 : Int32) (S : St) : Option (Int32 × St) :=
  cl (F_X7_isWithin a1 (2000 : Int32) (2099 : Int32) S) fun r7 S7 => if r7 = 0 then (J_X7_dayOf_23  S7) else (cl (F_X7_isWithin a2 (1 : Int32) (12 : Int32) S7) fun r17 S17 => if ¬ r17 = 0 then (bd (((((a1 - (2000 : Int32)) * (12 : Int32)) + a2) - (1 : Int32))) fun v37 => cl (F_X2_lengthOf v37 S17) fun r43 S43 => cl (F_X7_isWithin a3 (1 : Int32) r43 S43) fun r46 S46 => if r46 = 0 then (J_X7_dayOf_65  (-1 : Int32) S46) else (cl (F_X2_firstOf v37 S46) fun r54 S54 => J_X7_dayOf_65  ((r54 + a3) - (1 : Int32)) S54)) else (J_X7_dayOf_23  S17))
set_option maxRecDepth 20000 in
set_option maxHeartbeats 4000000 in
def J_X7_interest_31    (S : St) : Option (Int64 × St) :=
  some ((-1 : Int64), S)
set_option maxRecDepth 20000 in
set_option maxHeartbeats 4000000 in
def J_X7_interest_58    (S : St) : Option (Int64 × St) :=
  some ((-1 : Int64), S)
set_option maxRecDepth 20000 in
set_option maxHeartbeats 4000000 in
def F_X7_interest (c : Nat) (a1 : Int64) (a2 : Int32) (a3 : Int32) (a4 : Int32) (a5 : Int32) (S : St) : Option (Int64 × St) :=
  if a1 < (0 : Int64) then (J_X7_interest_31  S) else (if (100000000 : Int64) < a1 then (J_X7_interest_31  S) else (cl (F_X7_isRate a2 S) fun r15 S15 => if r15 = 0 then (J_X7_interest_31  S15) else (cl (F_X7_isWithin a3 (0 : Int32) (3 : Int32) S15) fun r25 S25 => if ¬ r25 = 0 then (cl (F_X7_isDay a4 S25) fun r37 S37 => if r37 = 0 then (J_X7_interest_58  S37) else (cl (F_X7_isDay a5 S37) fun r45 S45 => if r45 = 0 then (J_X7_interest_58  S45) else (if a4 ≤ a5 then (cl (F_X2_partsBetween a3 a4 a5 S45) fun r74 S74 => cl (F_X2_cents (a1 * (Int32.toInt64 a2)) a3 r74 S74) fun r77 S77 => some (r77, S77)) else (J_X7_interest_58  S45)))) else (J_X7_interest_31  S25))))
set_option maxRecDepth 20000 in
set_option maxHeartbeats 4000000 in
def F_X7_loan (c : Nat) (a1 : Int64) (a2 : Int32) (a3 : Int32) (a4 : Int32) (S : St) : Option (Int32 × St) :=
  gR 5 0 c fun v1 => gk v1 0 <| cl (F_X1_lend v1 a1 a2 a3 (a4 / (1000 : Int32)) ((a4 / (100 : Int32)) - (a4 / (100 : Int32)) / (10 : Int32) * (10 : Int32)) (a4 - a4 / (100 : Int32) * (100 : Int32)) S) fun r27 S27 => some (r27, S27)
set_option maxRecDepth 20000 in
set_option maxHeartbeats 4000000 in
def J_X7_days_40   (t0 : Int32) (S : St) : Option (Int32 × St) :=
  some (t0, S)
set_option maxRecDepth 20000 in
set_option maxHeartbeats 4000000 in
def F_X7_days (c : Nat) (a1 : Int32) (S : St) : Option (Int32 × St) :=
  cl (F_X7_isWithin a1 (1 : Int32) (4000 : Int32) S) fun r5 S5 => if ¬ r5 = 0 then (gR 5 0 c fun v14 => gI 0 0 v14 S5 fun v17 => if (v17 + a1) ≤ (36524 : Int32) then (gR 5 0 c fun v33 => gk v33 0 <| cl (F_X1_passDays v33 a1 S5) fun r37 S37 => J_X7_days_40  r37 S37) else (J_X7_days_40  (-5 : Int32) S5)) else (some ((-1 : Int32), S5))
set_option maxRecDepth 20000 in
set_option maxHeartbeats 4000000 in
def J_X7_isAmount_19   (t0 : Int32) (S : St) : Option (Int32 × St) :=
  zr t0 S
set_option maxRecDepth 20000 in
set_option maxHeartbeats 4000000 in
def J_X7_isAmount_18    (S : St) : Option (Int32 × St) :=
  J_X7_isAmount_19  (0 : Int32) S
set_option maxRecDepth 20000 in
set_option maxHeartbeats 4000000 in
def F_X7_isAmount (a1 : Int64) (S : St) : Option (Int32 × St) :=
  if a1 < (1 : Int64) then (J_X7_isAmount_18  S) else (if (1000000000 : Int64) < a1 then (J_X7_isAmount_18  S) else (J_X7_isAmount_19  (1 : Int32) S))
set_option maxRecDepth 20000 in
set_option maxHeartbeats 4000000 in
def J_X7_pay_18    (S : St) : Option (Int64 × St) :=
  some ((-1 : Int64), S)
set_option maxRecDepth 20000 in
set_option maxHeartbeats 4000000 in
def F_X7_pay (c : Nat) (a1 : Int32) (a2 : Int64) (S : St) : Option (Int64 × St) :=
  gR 5 0 c fun v1 => gk v1 0 <| cl (F_X1_has v1 a1 S) fun r5 S5 => if r5 = 0 then (J_X7_pay_18  S5) else (cl (F_X7_isAmount a2 S5) fun r12 S12 => if ¬ r12 = 0 then (gR 5 0 c fun v23 => gR 0 4 v23 fun v26 => aR 14 v26 a1 fun v30 => gk v30 2 <| cl (F_X4_receive v30 a2 S12) fun r32 S32 => some (r32, S32)) else (J_X7_pay_18  S12))
set_option maxRecDepth 20000 in
set_option maxHeartbeats 4000000 in
def J_X7_reset_18    (S : St) : Option (Int64 × St) :=
  some ((-1 : Int64), S)
set_option maxRecDepth 20000 in
set_option maxHeartbeats 4000000 in
def F_X7_reset (c : Nat) (a1 : Int32) (a2 : Int32) (S : St) : Option (Int64 × St) :=
  gR 5 0 c fun v1 => gk v1 0 <| cl (F_X1_has v1 a1 S) fun r5 S5 => if r5 = 0 then (J_X7_reset_18  S5) else (cl (F_X7_isRate a2 S5) fun r12 S12 => if ¬ r12 = 0 then (gR 5 0 c fun v23 => gR 0 4 v23 fun v26 => aR 14 v26 a1 fun v30 => pI 2 7 v30 a2 S12 fun S34 => gk v30 2 <| cl (F_X4_findLevel v30 S34) fun _ S38 => gL 2 2 v30 S38 fun v42 => some (v42, S38)) else (J_X7_reset_18  S12))
set_option maxRecDepth 20000 in
set_option maxHeartbeats 4000000 in
def J_X7_writeOff_42   (t0 : Int64) (S : St) : Option (Int64 × St) :=
  some (t0, S)
set_option maxRecDepth 20000 in
set_option maxHeartbeats 4000000 in
def F_X7_writeOff (c : Nat) (a1 : Int32) (S : St) : Option (Int64 × St) :=
  gR 5 0 c fun v1 => gk v1 0 <| cl (F_X1_has v1 a1 S) fun r5 S5 => if ¬ r5 = 0 then (gR 5 0 c fun v16 => gR 0 4 v16 fun v19 => aR 14 v19 a1 fun v23 => gk v23 2 <| cl (F_X4_isSettled v23 S5) fun r26 S26 => if r26 = 0 then (gk v23 2 <| cl (F_X4_giveUp v23 S26) fun r39 S39 => J_X7_writeOff_42  r39 S39) else (J_X7_writeOff_42  (-5 : Int64) S26)) else (some ((-1 : Int64), S5))
set_option maxRecDepth 20000 in
set_option maxHeartbeats 4000000 in
def J_X7_rule_70  (x3 : Int32)  (S : St) : Option (Int32 × St) :=
  some (x3, S)
set_option maxRecDepth 20000 in
set_option maxHeartbeats 4000000 in
def J_X7_rule_68    (S : St) : Option (Int32 × St) :=
  J_X7_rule_70  (-1 : Int32) S
set_option maxRecDepth 20000 in
set_option maxHeartbeats 4000000 in
def J_X7_rule_33  (x0 : Nat) (x1 : Int32) (x2 : Int32)  (S : St) : Option (Int32 × St) :=
  if ¬ x1 = (1 : Int32) then (J_X7_rule_68  S) else (cl (F_X7_isWithin x2 (0 : Int32) (10000 : Int32) S) fun r43 S43 => if r43 = 0 then (J_X7_rule_68  S43) else (gR 5 0 x0 fun v50 => gI 0 2 v50 S43 fun v53 => gR 5 0 x0 fun v58 => pI 0 2 v58 x2 S43 fun S62 => J_X7_rule_70  v53 S62))
set_option maxRecDepth 20000 in
set_option maxHeartbeats 4000000 in
def F_X7_rule (c : Nat) (a1 : Int32) (a2 : Int32) (S : St) : Option (Int32 × St) :=
  if ¬ a1 = 0 then (J_X7_rule_33  c a1 a2 S) else (cl (F_X7_isWithin a2 (0 : Int32) (90 : Int32) S) fun r8 S8 => if r8 = 0 then (J_X7_rule_33  c a1 a2 S8) else (gR 5 0 c fun v15 => gI 0 1 v15 S8 fun v18 => gR 5 0 c fun v23 => pI 0 1 v23 a2 S8 fun S27 => J_X7_rule_70  v18 S27))
set_option maxRecDepth 20000 in
set_option maxHeartbeats 4000000 in
def J_X7_of_161   (t0 : Int32) (S : St) : Option (Int32 × St) :=
  some (t0, S)
set_option maxRecDepth 20000 in
set_option maxHeartbeats 4000000 in
def F_X7_of (c : Nat) (a1 : Int32) (a2 : Int32) (S : St) : Option (Int32 × St) :=
  gR 5 0 c fun v1 => gk v1 0 <| cl (F_X1_has v1 a1 S) fun r5 S5 => if ¬ r5 = 0 then (gR 5 0 c fun v14 => gR 0 4 v14 fun v17 => aR 14 v17 a1 fun v21 => sw a2 (some ((-1 : Int32), S5)) [(0, gI 2 7 v21 S5 fun v81 => some (v81, S5)), (1, gI 2 8 v21 S5 fun v86 => some (v86, S5)), (2, gI 2 9 v21 S5 fun v91 => some (v91, S5)), (3, gI 2 11 v21 S5 fun v96 => some (v96, S5)), (4, gI 2 10 v21 S5 fun v101 => some (v101, S5)), (5, gR 2 13 v21 fun v106 => aI v106 (0 : Int32) S5 fun v110 => some (v110, S5)), (6, gI 2 12 v21 S5 fun v113 => some (v113, S5)), (7, gk v21 2 <| cl (F_X4_billsInArrears v21 S5) fun r118 S118 => some (r118, S118)), (8, gR 5 0 c fun v124 => gI 0 0 v124 S5 fun v127 => gk v21 2 <| cl (F_X4_daysLate v21 v127 S5) fun r130 S130 => some (r130, S130)), (9, gI 2 12 v21 S5 fun v135 => gI 2 11 v21 S5 fun v139 => if v139 ≤ v135 then (J_X7_of_161  (-2 : Int32) S5) else (gR 2 13 v21 fun v146 => gI 2 12 v21 S5 fun v150 => aI v146 (v150 + (1 : Int32)) S5 fun v155 => J_X7_of_161  v155 S5))]) else (some ((-1 : Int32), S5))
set_option maxRecDepth 20000 in
set_option maxHeartbeats 4000000 in
def F_X7_sum (c : Nat) (a1 : Int32) (a2 : Int32) (S : St) : Option (Int64 × St) :=
  gR 5 0 c fun v1 => gk v1 0 <| cl (F_X1_has v1 a1 S) fun r5 S5 => if ¬ r5 = 0 then (gR 5 0 c fun v16 => gR 0 4 v16 fun v19 => aR 14 v19 a1 fun v23 => sw a2 (some ((-1 : Int64), S5)) [(0, gL 2 0 v23 S5 fun v77 => some (v77, S5)), (1, gL 2 1 v23 S5 fun v82 => some (v82, S5)), (2, gL 2 2 v23 S5 fun v87 => some (v87, S5)), (3, gk v23 2 <| cl (F_X4_owed v23 S5) fun r92 S92 => some (r92, S92)), (4, gL 2 3 v23 S5 fun v97 => some (v97, S5)), (5, gL 2 4 v23 S5 fun v102 => some (v102, S5)), (6, gL 2 5 v23 S5 fun v107 => some (v107, S5)), (7, gL 2 6 v23 S5 fun v112 => some (v112, S5)), (8, gR 5 5 c fun v117 => gk v117 3 <| cl (F_X5_follow v117 v23 S5) fun _ S121 => gR 5 5 c fun v125 => gk v125 3 <| cl (F_X5_totalInterest v125 S121) fun r128 S128 => some (r128, S128))]) else (some ((-1 : Int64), S5))
set_option maxRecDepth 20000 in
set_option maxHeartbeats 4000000 in
def J_X7_bill_24    (S : St) : Option (Int64 × St) :=
  some ((-1 : Int64), S)
set_option maxRecDepth 20000 in
set_option maxHeartbeats 4000000 in
def F_X7_bill (c : Nat) (a1 : Int32) (a2 : Int32) (a3 : Int32) (S : St) : Option (Int64 × St) :=
  gR 5 0 c fun v1 => gk v1 0 <| cl (F_X1_has v1 a1 S) fun r5 S5 => if r5 = 0 then (J_X7_bill_24  S5) else (if a2 < 0 then (J_X7_bill_24  S5) else (cl (F_X7_isWithin a3 (0 : Int32) (3 : Int32) S5) fun r18 S18 => if ¬ r18 = 0 then (gR 5 0 c fun v29 => gR 0 4 v29 fun v32 => aR 14 v32 a1 fun v36 => gk v36 2 <| cl (F_X4_periodOfBill v36 a2 S18) fun r42 S42 => if ¬ r42 = 0 then (sw a3 (gR 2 15 v36 fun v114 => aJ v114 r42 S42 fun v119 => some (v119, S42)) [(0, gR 2 13 v36 fun v86 => aI v86 r42 S42 fun v91 => some ((Int32.toInt64 v91), S42)), (1, gR 2 16 v36 fun v96 => aJ v96 r42 S42 fun v101 => some (v101, S42)), (2, gR 2 17 v36 fun v105 => aJ v105 r42 S42 fun v110 => some (v110, S42))]) else (some ((-2 : Int64), S42))) else (J_X7_bill_24  S18)))
set_option maxRecDepth 20000 in
set_option maxHeartbeats 4000000 in
def J_X7_toCome_24    (S : St) : Option (Int64 × St) :=
  some ((-1 : Int64), S)
set_option maxRecDepth 20000 in
set_option maxHeartbeats 4000000 in
def F_X7_toCome (c : Nat) (a1 : Int32) (a2 : Int32) (a3 : Int32) (S : St) : Option (Int64 × St) :=
  gR 5 0 c fun v1 => gk v1 0 <| cl (F_X1_has v1 a1 S) fun r5 S5 => if r5 = 0 then (J_X7_toCome_24  S5) else (if a2 < 0 then (J_X7_toCome_24  S5) else (cl (F_X7_isWithin a3 (0 : Int32) (3 : Int32) S5) fun r18 S18 => if ¬ r18 = 0 then (gR 5 5 c fun v29 => gR 5 0 c fun v33 => gR 0 4 v33 fun v36 => aR 14 v36 a1 fun v40 => gk v29 3 <| cl (F_X5_follow v29 v40 S18) fun _ S41 => gR 5 5 c fun v45 => gk v45 3 <| cl (F_X5_periodOfBill v45 a2 S41) fun r49 S49 => if ¬ r49 = 0 then (sw a3 (gR 5 5 c fun v132 => gR 3 4 v132 fun v135 => aJ v135 r49 S49 fun v140 => some (v140, S49)) [(0, gR 5 0 c fun v93 => gR 0 4 v93 fun v96 => aR 14 v96 a1 fun v100 => gR 2 13 v100 fun v101 => aI v101 r49 S49 fun v106 => some ((Int32.toInt64 v106), S49)), (1, gR 5 5 c fun v110 => gR 3 2 v110 fun v113 => aJ v113 r49 S49 fun v118 => some (v118, S49)), (2, gR 5 5 c fun v121 => gR 3 3 v121 fun v124 => aJ v124 r49 S49 fun v129 => some (v129, S49))]) else (some ((-2 : Int64), S49))) else (J_X7_toCome_24  S18)))
set_option maxRecDepth 20000 in
set_option maxHeartbeats 4000000 in
def J_X7_coming_100   (t0 : Int64) (S : St) : Option (Int64 × St) :=
  some (t0, S)
set_option maxRecDepth 20000 in
set_option maxHeartbeats 4000000 in
def F_X7_coming (c : Nat) (a1 : Int32) (a2 : Int32) (S : St) : Option (Int64 × St) :=
  gR 5 0 c fun v1 => gk v1 0 <| cl (F_X1_has v1 a1 S) fun r5 S5 => if ¬ r5 = 0 then (gR 5 0 c fun v16 => gR 0 4 v16 fun v19 => aR 14 v19 a1 fun v23 => gR 5 5 c fun v26 => gk v26 3 <| cl (F_X5_follow v26 v23 S5) fun _ S30 => gR 5 5 c fun v34 => gk v34 3 <| cl (F_X5_bills v34 S30) fun r37 S37 => sw a2 (some ((-1 : Int64), S37)) [(0, some ((Int32.toInt64 r37), S37)), (1, if ¬ r37 = 0 then (gR 2 13 v23 fun v84 => gR 5 5 c fun v88 => gk v88 3 <| cl (F_X5_periodOfBill v88 (r37 - (1 : Int32)) S37) fun r95 S95 => aI v84 r95 S95 fun v98 => J_X7_coming_100  (Int32.toInt64 v98) S95) else (J_X7_coming_100  (-2 : Int64) S37)), (2, gR 5 5 c fun v102 => gk v102 3 <| cl (F_X5_greatestFlow v102 S37) fun r105 S105 => some (r105, S105))]) else (some ((-1 : Int64), S5))
set_option maxRecDepth 20000 in
set_option maxHeartbeats 4000000 in
def J_X7_value_18    (S : St) : Option (Int64 × St) :=
  some ((0 : Int64), S)
set_option maxRecDepth 20000 in
set_option maxHeartbeats 4000000 in
def F_X7_value (c : Nat) (a1 : Int32) (a2 : Int64) (S : St) : Option (Int64 × St) :=
  gR 5 0 c fun v1 => gk v1 0 <| cl (F_X1_has v1 a1 S) fun r5 S5 => if r5 = 0 then (J_X7_value_18  S5) else (cl (F_X0_isRateOfPeriod a2 S5) fun r12 S12 => if ¬ r12 = 0 then (gR 5 5 c fun v21 => gR 5 0 c fun v25 => gR 0 4 v25 fun v28 => aR 14 v28 a1 fun v32 => gk v21 3 <| cl (F_X5_follow v21 v32 S12) fun _ S33 => gR 5 5 c fun v37 => cl (F_X0_toDouble a2 S33) fun r41 S41 => gk v37 3 <| cl (F_X5_worth v37 r41 S41) fun r44 S44 => cl (F_X0_ofDouble r44 S44) fun r47 S47 => some (r47, S47)) else (J_X7_value_18  S12))
set_option maxRecDepth 20000 in
set_option maxHeartbeats 4000000 in
def J_X7_yieldOf_17    (S : St) : Option (Int64 × St) :=
  some ((-1 : Int64), S)
set_option maxRecDepth 20000 in
set_option maxHeartbeats 4000000 in
def F_X7_yieldOf (c : Nat) (a1 : Int32) (a2 : Int64) (S : St) : Option (Int64 × St) :=
  gR 5 0 c fun v1 => gk v1 0 <| cl (F_X1_has v1 a1 S) fun r5 S5 => if r5 = 0 then (J_X7_yieldOf_17  S5) else (if (1 : Int64) ≤ a2 then (gR 5 5 c fun v22 => gR 5 0 c fun v26 => gR 0 4 v26 fun v29 => aR 14 v29 a1 fun v33 => gk v22 3 <| cl (F_X5_follow v22 v33 S5) fun _ S34 => gR 5 5 c fun v38 => gk v38 3 <| cl (F_X5_yieldBy v38 (FP.l2d a2) S34) fun r43 S43 => cl (F_X0_ofDouble r43 S43) fun r46 S46 => some (r46, S46)) else (J_X7_yieldOf_17  S5))
set_option maxRecDepth 20000 in
set_option maxHeartbeats 4000000 in
def J_X7_near_17    (S : St) : Option (Int32 × St) :=
  some ((-1 : Int32), S)
set_option maxRecDepth 20000 in
set_option maxHeartbeats 4000000 in
def F_X7_near (c : Nat) (a1 : Int32) (a2 : Int64) (S : St) : Option (Int32 × St) :=
  gR 5 0 c fun v1 => gk v1 0 <| cl (F_X1_has v1 a1 S) fun r5 S5 => if r5 = 0 then (J_X7_near_17  S5) else (if (1 : Int64) ≤ a2 then (gR 5 5 c fun v20 => gR 5 0 c fun v24 => gR 0 4 v24 fun v27 => aR 14 v27 a1 fun v31 => gk v20 3 <| cl (F_X5_follow v20 v31 S5) fun _ S32 => gR 5 5 c fun v36 => gk v36 3 <| cl (F_X5_yieldBy v36 (FP.l2d a2) S32) fun r41 S41 => fq (FP.d2f r41) fun v44 => cl (F_X0_ofFloat v44 S41) fun r45 S45 => some (r45, S45)) else (J_X7_near_17  S5))
set_option maxRecDepth 20000 in
set_option maxHeartbeats 4000000 in
def J_X7_duration_18    (S : St) : Option (Int64 × St) :=
  some ((0 : Int64), S)
set_option maxRecDepth 20000 in
set_option maxHeartbeats 4000000 in
def J_X7_duration_79   (t0 : Int64) (S : St) : Option (Int64 × St) :=
  some (t0, S)
set_option maxRecDepth 20000 in
set_option maxHeartbeats 4000000 in
def F_X7_duration (c : Nat) (a1 : Int32) (a2 : Int64) (S : St) : Option (Int64 × St) :=
  gR 5 0 c fun v1 => gk v1 0 <| cl (F_X1_has v1 a1 S) fun r5 S5 => if r5 = 0 then (J_X7_duration_18  S5) else (cl (F_X0_isRateOfPeriod a2 S5) fun r12 S12 => if ¬ r12 = 0 then (gR 5 5 c fun v21 => gR 5 0 c fun v25 => gR 0 4 v25 fun v28 => aR 14 v28 a1 fun v32 => gk v21 3 <| cl (F_X5_follow v21 v32 S12) fun _ S33 => cl (F_X0_toDouble a2 S33) fun r37 S37 => gR 5 5 c fun v43 => gk v43 3 <| cl (F_X5_worth v43 r37 S37) fun r48 S48 => if dx r48 FP.dconst0 .l ≤ 0 then (J_X7_duration_79  (0 : Int64) S48) else (gR 5 5 c fun v61 => gk v61 3 <| cl (F_X5_worthByNumber v61 r37 S48) fun r66 S66 => dq (FP.ddiv r66 r48) fun v71 => cl (F_X0_ofDouble v71 S66) fun r72 S72 => J_X7_duration_79  r72 S72)) else (J_X7_duration_18  S12))
set_option maxRecDepth 20000 in
set_option maxHeartbeats 4000000 in
def J_X7_behind_50 (rec10 : (Nat → Int32 → Int32 → Int32 → St → Option (Int32 × St))) (x0 : Nat) (x1 : Int32) (x2 : Int32) (x3 : Int32)  (S : St) : Option (Int32 × St) :=
  rec10 x0 x1 x2 (x3 + 1) S
set_option maxRecDepth 20000 in
set_option maxHeartbeats 4000000 in
def B_X7_behind_10 (rec10 : (Nat → Int32 → Int32 → Int32 → St → Option (Int32 × St))) (x0 : Nat) (x1 : Int32) (x2 : Int32) (x3 : Int32)  (S : St) : Option (Int32 × St) :=
  gR 5 0 x0 fun v12 => gI 0 3 v12 S fun v15 => if v15 ≤ x3 then (some (x2, S)) else (gR 5 0 x0 fun v22 => gR 0 4 v22 fun v25 => aR 14 v25 x3 fun v29 => gR 5 0 x0 fun v31 => gI 0 0 v31 S fun v34 => gk v29 2 <| cl (F_X4_daysLate v29 v34 S) fun r37 S37 => if r37 ≤ x1 then (J_X7_behind_50 rec10 x0 x1 x2 x3 S37) else (bd ((x2 ||| ((1 : Int32) <<< (x3 &&& 31)))) fun v49 => J_X7_behind_50 rec10 x0 x1 v49 x3 S37))
set_option maxRecDepth 20000 in
set_option maxHeartbeats 4000000 in
def L_X7_behind_10  : Nat → Nat → Int32 → Int32 → Int32 → St → Option (Int32 × St)
  | 0, _, _, _, _, _ => none
  | n + 1, x0, x1, x2, x3, S => B_X7_behind_10  (L_X7_behind_10  n) x0 x1 x2 x3 S
set_option maxRecDepth 20000 in
set_option maxHeartbeats 4000000 in
def F_X7_behind (c : Nat) (a1 : Int32) (S : St) : Option (Int32 × St) :=
  if 0 ≤ a1 then (L_X7_behind_10  6000 c a1 (0 : Int32) (0 : Int32) S) else (some ((-1 : Int32), S))
set_option maxRecDepth 20000 in
set_option maxHeartbeats 4000000 in
def J_X7_settles_55   (t0 : Int32) (S : St) : Option (Int32 × St) :=
  some (t0, S)
set_option maxRecDepth 20000 in
set_option maxHeartbeats 4000000 in
def F_X7_settles (c : Nat) (a1 : Int32) (S : St) : Option (Int32 × St) :=
  gR 5 0 c fun v1 => gk v1 0 <| cl (F_X1_has v1 a1 S) fun r5 S5 => if ¬ r5 = 0 then (gR 5 0 c fun v14 => gR 0 4 v14 fun v17 => aR 14 v17 a1 fun v21 => gI 2 12 v21 S5 fun v24 => gI 2 11 v21 S5 fun v28 => if v28 ≤ v24 then (J_X7_settles_55  (0 : Int32) S5) else (gR 2 13 v21 fun v35 => gI 2 11 v21 S5 fun v39 => aI v35 v39 S5 fun v42 => gR 5 0 c fun v44 => gI 0 0 v44 S5 fun v47 => J_X7_settles_55  (v42 - v47) S5)) else (some ((-1 : Int32), S5))
set_option maxRecDepth 20000 in
set_option maxHeartbeats 4000000 in
def J_X7_would_18    (S : St) : Option (Int64 × St) :=
  some ((-1 : Int64), S)
set_option maxRecDepth 20000 in
set_option maxHeartbeats 4000000 in
def F_X7_would (c : Nat) (a1 : Int32) (a2 : Int64) (a3 : Int32) (S : St) : Option (Int64 × St) :=
  gR 5 0 c fun v1 => gk v1 0 <| cl (F_X1_has v1 a1 S) fun r5 S5 => if r5 = 0 then (J_X7_would_18  S5) else (cl (F_X7_isAmount a2 S5) fun r12 S12 => if ¬ r12 = 0 then (gR 5 0 c fun v23 => gR 0 4 v23 fun v26 => aR 14 v26 a1 fun v30 => gR 5 4 c fun v34 => gk v34 2 <| cl (F_X4_copyFrom v34 v30 S12) fun _ S39 => gR 5 4 c fun v43 => gk v43 2 <| cl (F_X4_receive v43 a2 S39) fun r47 S47 => gL 2 1 v30 S47 fun v54 => gR 5 4 c fun v58 => gL 2 1 v58 S47 fun v61 => bd ((v54 - v61)) fun v65 => sw a3 (some ((-1 : Int64), S47)) [(0, gR 5 4 c fun v109 => gL 2 3 v109 S47 fun v112 => gL 2 3 v30 S47 fun v117 => some ((v112 - v117), S47)), (1, gR 5 4 c fun v123 => gL 2 4 v123 S47 fun v126 => gL 2 4 v30 S47 fun v131 => some ((v126 - v131), S47)), (2, gR 5 4 c fun v137 => gL 2 5 v137 S47 fun v140 => gL 2 5 v30 S47 fun v145 => some (((v140 - v145) - v65), S47)), (3, some (v65, S47)), (4, some (r47, S47)), (5, gR 5 4 c fun v160 => gL 2 2 v160 S47 fun v163 => some (v163, S47))]) else (J_X7_would_18  S12))
set_option maxRecDepth 20000 in
set_option maxHeartbeats 4000000 in
def J_X7_sooner_18    (S : St) : Option (Int32 × St) :=
  some ((-1 : Int32), S)
set_option maxRecDepth 20000 in
set_option maxHeartbeats 4000000 in
def F_X7_sooner (c : Nat) (a1 : Int32) (a2 : Int64) (S : St) : Option (Int32 × St) :=
  gR 5 0 c fun v1 => gk v1 0 <| cl (F_X1_has v1 a1 S) fun r5 S5 => if r5 = 0 then (J_X7_sooner_18  S5) else (cl (F_X7_isAmount a2 S5) fun r12 S12 => if ¬ r12 = 0 then (gR 5 5 c fun v21 => gR 5 0 c fun v25 => gR 0 4 v25 fun v28 => aR 14 v28 a1 fun v32 => gk v21 3 <| cl (F_X5_follow v21 v32 S12) fun _ S33 => gR 5 5 c fun v37 => gk v37 3 <| cl (F_X5_lastWithPrincipal v37 S33) fun r40 S40 => gR 5 4 c fun v46 => gR 5 0 c fun v50 => gR 0 4 v50 fun v53 => aR 14 v53 a1 fun v57 => gk v46 2 <| cl (F_X4_copyFrom v46 v57 S40) fun _ S58 => gR 5 4 c fun v62 => gk v62 2 <| cl (F_X4_receive v62 a2 S58) fun r66 S66 => gR 5 5 c fun v71 => gR 5 4 c fun v75 => gk v71 3 <| cl (F_X5_follow v71 v75 S66) fun _ S78 => gR 5 5 c fun v85 => gk v85 3 <| cl (F_X5_lastWithPrincipal v85 S78) fun r88 S88 => cl (F_J9_max_7cf53 (0 : Int32) (r40 - r88) S88) fun r92 S92 => some (r92, S92)) else (J_X7_sooner_18  S12))
set_option maxRecDepth 20000 in
set_option maxHeartbeats 4000000 in
def F_X7_isHolder (a1 : Int32) (S : St) : Option (Int32 × St) :=
  cl (F_X7_isWithin a1 (0 : Int32) (5 : Int32) S) fun r3 S3 => zr r3 S3
set_option maxRecDepth 20000 in
set_option maxHeartbeats 4000000 in
def J_X7_judge_18    (S : St) : Option (Int32 × St) :=
  some ((-1 : Int32), S)
set_option maxRecDepth 20000 in
set_option maxHeartbeats 4000000 in
def J_X7_judge_49   (t0 : Int32) (S : St) : Option (Int32 × St) :=
  some (t0, S)
set_option maxRecDepth 20000 in
set_option maxHeartbeats 4000000 in
def J_X7_judge_122  (x5 : Int32)  (S : St) : Option (Int32 × St) :=
  some (x5, S)
set_option maxRecDepth 20000 in
set_option maxHeartbeats 4000000 in
def J_X7_judge_149   (t0 : Int32) (S : St) : Option (Int32 × St) :=
  some (t0, S)
set_option maxRecDepth 20000 in
set_option maxHeartbeats 4000000 in
def B_X7_judge_78 (rec78 : (Nat → Nat → Int32 → Int32 → St → Option (Int32 × St))) (x0 : Nat) (x3 : Nat) (x4 : Int32) (x5 : Int32)  (S : St) : Option (Int32 × St) :=
  gI 1 2 x3 S fun v81 => if v81 ≤ x5 then (gI 1 2 x3 S fun v134 => if x4 ≤ v134 then (J_X7_judge_149  (-2 : Int32) S) else (gI 1 2 x3 S fun v141 => J_X7_judge_149  v141 S)) else (if x4 ≤ x5 then (J_X7_judge_122  x5 S) else (gR 1 4 x3 fun v95 => aJ v95 x5 S fun v100 => gR 5 5 x0 fun v102 => gR 3 3 v102 fun v105 => gR 5 5 x0 fun v109 => gk v109 3 <| cl (F_X5_periodOfBill v109 x5 S) fun r114 S114 => aJ v105 r114 S114 fun v117 => if v100 = v117 then (rec78 x0 x3 x4 (x5 + 1) S114) else (J_X7_judge_122  x5 S114)))
set_option maxRecDepth 20000 in
set_option maxHeartbeats 4000000 in
def L_X7_judge_78  : Nat → Nat → Nat → Int32 → Int32 → St → Option (Int32 × St)
  | 0, _, _, _, _, _ => none
  | n + 1, x0, x3, x4, x5, S => B_X7_judge_78  (L_X7_judge_78  n) x0 x3 x4 x5 S
set_option maxRecDepth 20000 in
set_option maxHeartbeats 4000000 in
def F_X7_judge (c : Nat) (a1 : Int32) (a2 : Int32) (S : St) : Option (Int32 × St) :=
  cl (F_X7_isHolder a1 S) fun r1 S1 => if r1 = 0 then (J_X7_judge_18  S1) else (gR 5 0 c fun v8 => gk v8 0 <| cl (F_X1_has v8 a2 S1) fun r12 S12 => if ¬ r12 = 0 then (gR 5 7 c fun v21 => aR 13 v21 a1 fun v25 => gI 1 0 v25 S12 fun v28 => if v28 = (3 : Int32) then (gR 5 5 c fun v51 => gR 5 0 c fun v55 => gR 0 4 v55 fun v58 => aR 14 v58 a2 fun v62 => gk v51 3 <| cl (F_X5_follow v51 v62 S12) fun _ S63 => gR 5 5 c fun v67 => gk v67 3 <| cl (F_X5_bills v67 S63) fun r70 S70 => L_X7_judge_78  6000 c v25 r70 (0 : Int32) S70) else (gI 1 0 v25 S12 fun v36 => if ¬ v36 = 0 then (J_X7_judge_49  (-12 : Int32) S12) else (J_X7_judge_49  (-11 : Int32) S12))) else (J_X7_judge_18  S12))
set_option maxRecDepth 20000 in
set_option maxHeartbeats 4000000 in
def F_X7_feed (c : Nat) (a1 : Int32) (S : St) : Option (Int32 × St) :=
  cl (F_X7_isWithin a1 (0 : Int32) (255 : Int32) S) fun r5 S5 => if ¬ r5 = 0 then (gR 5 6 c fun v14 => gI 4 0 v14 S5 fun v17 => if v17 < (120 : Int32) then (gR 5 6 c fun v29 => gR 4 3 v29 fun v32 => gR 5 6 c fun v36 => gI 4 0 v36 S5 fun v39 => sI v32 v39 a1 S5 fun S43 => gR 5 6 c fun v45 => gI 4 0 v45 S43 fun v49 => pI 4 0 v45 (v49 + (1 : Int32)) S43 fun S54 => gR 5 6 c fun v58 => gI 4 0 v58 S54 fun v61 => some (v61, S54)) else (some ((-3 : Int32), S5))) else (some ((-1 : Int32), S5))
set_option maxRecDepth 20000 in
set_option maxHeartbeats 4000000 in
def J_X7_doLine_196    (S : St) : Option (Int64 × St) :=
  some ((-1 : Int64), S)
set_option maxRecDepth 20000 in
set_option maxHeartbeats 4000000 in
def F_X7_doLine (c : Nat) (S : St) : Option (Int64 × St) :=
  gR 5 6 c fun v1 => gR 4 4 v1 fun v4 => gR 5 6 c fun v9 => gI 4 2 v9 S fun v12 => sw v12 (J_X7_doLine_196  S) [(100, aI v4 (0 : Int32) S fun v162 => gk c 5 <| cl (F_X7_days c v162 S) fun r163 S163 => some ((Int32.toInt64 r163), S163)), (101, J_X7_doLine_196  S), (102, aI v4 (0 : Int32) S fun v190 => gk c 5 <| cl (F_X7_rule c (1 : Int32) v190 S) fun r191 S191 => some ((Int32.toInt64 r191), S191)), (103, aI v4 (0 : Int32) S fun v180 => gk c 5 <| cl (F_X7_rule c (0 : Int32) v180 S) fun r181 S181 => some ((Int32.toInt64 r181), S181)), (104, J_X7_doLine_196  S), (105, J_X7_doLine_196  S), (106, J_X7_doLine_196  S), (107, J_X7_doLine_196  S), (108, gR 5 0 c fun v109 => aI v4 (0 : Int32) S fun v114 => aI v4 (1 : Int32) S fun v118 => aI v4 (2 : Int32) S fun v121 => aI v4 (3 : Int32) S fun v124 => aI v4 (5 : Int32) S fun v127 => aI v4 (4 : Int32) S fun v130 => gk v109 0 <| cl (F_X1_lend v109 (Int32.toInt64 v114) v118 v121 v124 v127 v130 S) fun r131 S131 => some ((Int32.toInt64 r131), S131)), (109, J_X7_doLine_196  S), (110, J_X7_doLine_196  S), (111, J_X7_doLine_196  S), (112, aI v4 (0 : Int32) S fun v139 => aI v4 (1 : Int32) S fun v142 => gk c 5 <| cl (F_X7_pay c v139 (Int32.toInt64 v142) S) fun r144 S144 => some (r144, S144)), (113, J_X7_doLine_196  S), (114, aI v4 (0 : Int32) S fun v151 => aI v4 (1 : Int32) S fun v154 => gk c 5 <| cl (F_X7_reset c v151 v154 S) fun r155 S155 => some (r155, S155)), (115, J_X7_doLine_196  S), (116, J_X7_doLine_196  S), (117, J_X7_doLine_196  S), (118, J_X7_doLine_196  S), (119, aI v4 (0 : Int32) S fun v171 => gk c 5 <| cl (F_X7_writeOff c v171 S) fun r172 S172 => some (r172, S172))]
set_option maxRecDepth 20000 in
set_option maxHeartbeats 4000000 in
def J_X7_script_84 (rec50 : (Nat → Int32 → Int32 → St → Option (Int32 × St))) (x0 : Nat) (x2 : Int32) (t0 : Int32) (S : St) : Option (Int32 × St) :=
  if ¬ t0 = 0 then (rec50 x0 x2 t0 S) else (gR 5 6 x0 fun v93 => gI 4 1 v93 S fun v97 => pI 4 1 v93 (v97 + (1 : Int32)) S fun S102 => rec50 x0 (x2 + 1) t0 S102)
set_option maxRecDepth 20000 in
set_option maxHeartbeats 4000000 in
def J_X7_script_108  (x0 : Nat) (x2 : Int32) (x3 : Int32)  (S : St) : Option (Int32 × St) :=
  gR 5 6 x0 fun v109 => pI 4 0 v109 (0 : Int32) S fun S113 => if x3 = 0 then (some (x2, S113)) else (gR 5 0 x0 fun v121 => gR 5 1 x0 fun v125 => gk v121 0 <| cl (F_X1_copyFrom v121 v125 S113) fun _ S128 => some (((-2000 : Int32) - x2), S128))
set_option maxRecDepth 20000 in
set_option maxHeartbeats 4000000 in
def B_X7_script_50 (rec50 : (Nat → Int32 → Int32 → St → Option (Int32 × St))) (x0 : Nat) (x2 : Int32) (x3 : Int32)  (S : St) : Option (Int32 × St) :=
  if (120 : Int32) ≤ x2 then (J_X7_script_108  x0 x2 x3 S) else (if ¬ x3 = 0 then (J_X7_script_108  x0 x2 x3 S) else (gR 5 6 x0 fun v61 => gk v61 4 <| cl (F_X6_readLine v61 S) fun r64 S64 => if r64 = 0 then (J_X7_script_108  x0 x2 x3 S64) else (gk x0 5 <| cl (F_X7_doLine x0 S64) fun r71 S71 => if (0 : Int64) ≤ r71 then (J_X7_script_84 rec50 x0 x2 (0 : Int32) S71) else (J_X7_script_84 rec50 x0 x2 (1 : Int32) S71))))
set_option maxRecDepth 20000 in
set_option maxHeartbeats 4000000 in
def L_X7_script_50  : Nat → Nat → Int32 → Int32 → St → Option (Int32 × St)
  | 0, _, _, _, _ => none
  | n + 1, x0, x2, x3, S => B_X7_script_50  (L_X7_script_50  n) x0 x2 x3 S
set_option maxRecDepth 20000 in
set_option maxHeartbeats 4000000 in
def F_X7_script (c : Nat) (S : St) : Option (Int32 × St) :=
  gR 5 6 c fun v1 => gk v1 4 <| cl (F_X6_placeOfFault v1 S) fun r4 S4 => if r4 = (-1 : Int32) then (gR 5 1 c fun v28 => gR 5 0 c fun v32 => gk v28 0 <| cl (F_X1_copyFrom v28 v32 S4) fun _ S35 => gR 5 6 c fun v39 => pI 4 1 v39 (0 : Int32) S35 fun S43 => L_X7_script_50  6000 c (0 : Int32) (0 : Int32) S43) else (gR 5 6 c fun v14 => pI 4 0 v14 (0 : Int32) S4 fun S18 => some (((-1000 : Int32) - r4), S18))
set_option maxRecDepth 20000 in
set_option maxHeartbeats 4000000 in
def F_X7_image (c : Nat) (S : St) : Option (Int32 × St) :=
  gR 5 2 c fun v1 => gR 5 0 c fun v5 => gk v1 0 <| cl (F_X1_copyFrom v1 v5 S) fun _ S8 => pZ 5 3 c (1 : Int32) S8 fun S13 => gR 5 0 c fun v17 => gI 0 0 v17 S13 fun v20 => some (v20, S13)
set_option maxRecDepth 20000 in
set_option maxHeartbeats 4000000 in
def J_X7_back_71 (rec23 : (Nat → Int32 → St → Option (Int32 × St))) (x0 : Nat) (x1 : Int32)  (S : St) : Option (Int32 × St) :=
  rec23 x0 (x1 + 1) S
set_option maxRecDepth 20000 in
set_option maxHeartbeats 4000000 in
def B_X7_back_23 (rec23 : (Nat → Int32 → St → Option (Int32 × St))) (x0 : Nat) (x1 : Int32)  (S : St) : Option (Int32 × St) :=
  if (6 : Int32) ≤ x1 then (gR 5 0 x0 fun v78 => gI 0 0 v78 S fun v81 => some (v81, S)) else (gR 5 7 x0 fun v30 => aR 13 v30 x1 fun v34 => gI 1 0 v34 S fun v35 => if ¬ v35 = (1 : Int32) then (J_X7_back_71 rec23 x0 x1 S) else (gR 5 0 x0 fun v43 => gR 5 7 x0 fun v47 => aR 13 v47 x1 fun v51 => gI 1 1 v51 S fun v52 => gk v43 0 <| cl (F_X1_has v43 v52 S) fun r55 S55 => if ¬ r55 = 0 then (J_X7_back_71 rec23 x0 x1 S55) else (gR 5 7 x0 fun v62 => aR 13 v62 x1 fun v66 => pI 1 0 v66 (0 : Int32) S55 fun S68 => J_X7_back_71 rec23 x0 x1 S68)))
set_option maxRecDepth 20000 in
set_option maxHeartbeats 4000000 in
def L_X7_back_23  : Nat → Nat → Int32 → St → Option (Int32 × St)
  | 0, _, _, _ => none
  | n + 1, x0, x1, S => B_X7_back_23  (L_X7_back_23  n) x0 x1 S
set_option maxRecDepth 20000 in
set_option maxHeartbeats 4000000 in
def F_X7_back (c : Nat) (S : St) : Option (Int32 × St) :=
  gI 5 3 c S fun v1 => if ¬ v1 = 0 then (gR 5 0 c fun v11 => gR 5 2 c fun v15 => gk v11 0 <| cl (F_X1_copyFrom v11 v15 S) fun _ S18 => L_X7_back_23  6000 c (0 : Int32) S18) else (some ((-5 : Int32), S))
set_option maxRecDepth 20000 in
set_option maxHeartbeats 4000000 in
def J_X7_hold_23    (S : St) : Option (Int32 × St) :=
  some ((-1 : Int32), S)
set_option maxRecDepth 20000 in
set_option maxHeartbeats 4000000 in
def F_X7_hold (c : Nat) (a1 : Int32) (a2 : Int32) (a3 : Int32) (S : St) : Option (Int32 × St) :=
  cl (F_X7_isHolder a1 S) fun r1 S1 => if r1 = 0 then (J_X7_hold_23  S1) else (gR 5 0 c fun v8 => gk v8 0 <| cl (F_X1_has v8 a2 S1) fun r12 S12 => if r12 = 0 then (J_X7_hold_23  S12) else (if (-1 : Int32) ≤ a3 then (if ¬ a3 = (-1 : Int32) then (gR 5 0 c fun v43 => gR 0 4 v43 fun v46 => aR 14 v46 a2 fun v50 => gk v50 2 <| cl (F_X4_periodOfBill v50 a3 S12) fun r56 S56 => if ¬ r56 = 0 then (gR 5 7 c fun v70 => aR 13 v70 a1 fun v74 => gR 2 13 v50 fun v77 => aI v77 r56 S56 fun v82 => gk v50 2 <| cl (F_X4_asks v50 r56 S56) fun r87 S87 => gk v74 1 <| cl (F_X3_takeBill v74 v82 r87 S87) fun _ S90 => some ((1 : Int32), S90)) else (some ((-2 : Int32), S56))) else (gR 5 7 c fun v31 => aR 13 v31 a1 fun v35 => gk v35 1 <| cl (F_X3_takeLoan v35 a2 S12) fun _ S37 => some ((1 : Int32), S37))) else (J_X7_hold_23  S12)))
set_option maxRecDepth 20000 in
set_option maxHeartbeats 4000000 in
def J_X7_row_13    (S : St) : Option (Int32 × St) :=
  some ((-1 : Int32), S)
set_option maxRecDepth 20000 in
set_option maxHeartbeats 4000000 in
def J_X7_row_51    (S : St) : Option (Int32 × St) :=
  some ((1 : Int32), S)
set_option maxRecDepth 20000 in
set_option maxHeartbeats 4000000 in
def F_X7_row (c : Nat) (a1 : Int32) (a2 : Int32) (S : St) : Option (Int32 × St) :=
  cl (F_X7_isHolder a1 S) fun r1 S1 => if r1 = 0 then (J_X7_row_13  S1) else (if a2 ≤ (60 : Int32) then (if (-1 : Int32) ≤ a2 then (if ¬ a2 = (-1 : Int32) then (gR 5 7 c fun v42 => aR 13 v42 a1 fun v46 => gk v46 1 <| cl (F_X3_takeRow v46 a2 S1) fun _ S48 => J_X7_row_51  S48) else (gR 5 7 c fun v29 => aR 13 v29 a1 fun v33 => pI 1 0 v33 (0 : Int32) S1 fun S35 => J_X7_row_51  S35)) else (some ((-14 : Int32), S1))) else (J_X7_row_13  S1))
set_option maxRecDepth 20000 in
set_option maxHeartbeats 4000000 in
def J_X7_put_41   (t0 : Int32) (S : St) : Option (Int32 × St) :=
  some (t0, S)
set_option maxRecDepth 20000 in
set_option maxHeartbeats 4000000 in
def J_X7_put_55    (S : St) : Option (Int32 × St) :=
  some ((-13 : Int32), S)
set_option maxRecDepth 20000 in
set_option maxHeartbeats 4000000 in
def F_X7_put (c : Nat) (a1 : Int32) (a2 : Int32) (a3 : Int64) (S : St) : Option (Int32 × St) :=
  cl (F_X7_isHolder a1 S) fun r1 S1 => if ¬ r1 = 0 then (gR 5 7 c fun v10 => aR 13 v10 a1 fun v14 => gI 1 0 v14 S1 fun v19 => if v19 = (3 : Int32) then (if a2 < 0 then (J_X7_put_55  S1) else (gI 1 2 v14 S1 fun v49 => if a2 < v49 then (gR 1 4 v14 fun v60 => sJ v60 a2 a3 S1 fun S65 => some ((1 : Int32), S65)) else (J_X7_put_55  S1))) else (gI 1 0 v14 S1 fun v28 => if ¬ v28 = 0 then (J_X7_put_41  (-12 : Int32) S1) else (J_X7_put_41  (-11 : Int32) S1))) else (some ((-1 : Int32), S1))
set_option maxRecDepth 20000 in
set_option maxHeartbeats 4000000 in
def J_X7_loanTells_82    (S : St) : Option (Int64 × St) :=
  some ((-12 : Int64), S)
set_option maxRecDepth 20000 in
set_option maxHeartbeats 4000000 in
def J_X7_loanTells_81   (t0 : Int64) (S : St) : Option (Int64 × St) :=
  some (t0, S)
set_option maxRecDepth 20000 in
set_option maxHeartbeats 4000000 in
def F_X7_loanTells (c : Nat) (a1 : Int32) (a2 : Int32) (S : St) : Option (Int64 × St) :=
  gR 5 0 c fun v1 => gk v1 0 <| cl (F_X1_has v1 a1 S) fun r5 S5 => if ¬ r5 = 0 then (gR 5 0 c fun v16 => gR 0 4 v16 fun v19 => aR 14 v19 a1 fun v23 => sw a2 (J_X7_loanTells_82  S5) [(0, some ((Int32.toInt64 a1), S5)), (1, gL 2 1 v23 S5 fun v60 => some (v60, S5)), (2, J_X7_loanTells_82  S5), (3, gI 2 9 v23 S5 fun v65 => if ¬ v65 = 0 then (J_X7_loanTells_81  (-12 : Int64) S5) else (gL 2 2 v23 S5 fun v72 => J_X7_loanTells_81  v72 S5))]) else (some ((-11 : Int64), S5))
set_option maxRecDepth 20000 in
set_option maxHeartbeats 4000000 in
def F_X7_billTells (a1 : Nat) (a2 : Int32) (S : St) : Option (Int64 × St) :=
  sw a2 (some ((-12 : Int64), S)) [(0, gI 1 1 a1 S fun v29 => some ((Int32.toInt64 v29), S)), (2, gL 1 3 a1 S fun v35 => some (v35, S))]
set_option maxRecDepth 20000 in
set_option maxHeartbeats 4000000 in
def J_X7_tells_16    (S : St) : Option (Int64 × St) :=
  some ((-1 : Int64), S)
set_option maxRecDepth 20000 in
set_option maxHeartbeats 4000000 in
def F_X7_tells (c : Nat) (a1 : Int32) (a2 : Int32) (S : St) : Option (Int64 × St) :=
  cl (F_X7_isHolder a1 S) fun r1 S1 => if r1 = 0 then (J_X7_tells_16  S1) else (cl (F_X7_isWithin a2 (0 : Int32) (3 : Int32) S1) fun r10 S10 => if ¬ r10 = 0 then (gR 5 7 c fun v21 => aR 13 v21 a1 fun v25 => gI 1 0 v25 S10 fun v28 => sw v28 (some ((-11 : Int64), S10)) [(1, gI 1 1 v25 S10 fun v58 => gk c 5 <| cl (F_X7_loanTells c v58 a2 S10) fun r62 S62 => some (r62, S62)), (2, cl (F_X7_billTells v25 a2 S10) fun r68 S68 => some (r68, S68)), (3, some ((-12 : Int64), S10))]) else (J_X7_tells_16  S10))
set_option maxRecDepth 20000 in
set_option maxHeartbeats 4000000 in
def J_X7_fullHolders_25 (rec4 : (Nat → Int32 → Int32 → St → Option (Int32 × St))) (x0 : Nat) (x1 : Int32) (x2 : Int32)  (S : St) : Option (Int32 × St) :=
  rec4 x0 x1 (x2 + 1) S
set_option maxRecDepth 20000 in
set_option maxHeartbeats 4000000 in
def B_X7_fullHolders_4 (rec4 : (Nat → Int32 → Int32 → St → Option (Int32 × St))) (x0 : Nat) (x1 : Int32) (x2 : Int32)  (S : St) : Option (Int32 × St) :=
  if (6 : Int32) ≤ x2 then (some (x1, S)) else (gR 5 7 x0 fun v11 => aR 13 v11 x2 fun v15 => gI 1 0 v15 S fun v16 => if v16 = 0 then (J_X7_fullHolders_25 rec4 x0 x1 x2 S) else (J_X7_fullHolders_25 rec4 x0 (x1 + 1) x2 S))
set_option maxRecDepth 20000 in
set_option maxHeartbeats 4000000 in
def L_X7_fullHolders_4  : Nat → Nat → Int32 → Int32 → St → Option (Int32 × St)
  | 0, _, _, _, _ => none
  | n + 1, x0, x1, x2, S => B_X7_fullHolders_4  (L_X7_fullHolders_4  n) x0 x1 x2 S
set_option maxRecDepth 20000 in
set_option maxHeartbeats 4000000 in
def F_X7_fullHolders (c : Nat) (S : St) : Option (Int32 × St) :=
  L_X7_fullHolders_4  6000 c (0 : Int32) (0 : Int32) S
set_option maxRecDepth 20000 in
set_option maxHeartbeats 4000000 in
def F_X7_count (c : Nat) (a1 : Int32) (S : St) : Option (Int32 × St) :=
  sw a1 (some ((-1 : Int32), S)) [(0, gR 5 0 c fun v49 => gI 0 3 v49 S fun v52 => some (v52, S)), (1, gR 5 0 c fun v57 => gk v57 0 <| cl (F_X1_billsInArrears v57 S) fun r60 S60 => some (r60, S60)), (2, gR 5 0 c fun v65 => gI 0 0 v65 S fun v68 => some (v68, S)), (3, gR 5 0 c fun v73 => gI 0 1 v73 S fun v76 => some (v76, S)), (4, gR 5 0 c fun v81 => gI 0 2 v81 S fun v84 => some (v84, S)), (5, gR 5 0 c fun v89 => gk v89 0 <| cl (F_X1_settledLoans v89 S) fun r92 S92 => some (r92, S92)), (6, gR 5 6 c fun v97 => gI 4 0 v97 S fun v100 => some (v100, S)), (7, gk c 5 <| cl (F_X7_fullHolders c S) fun r105 S105 => some (r105, S105))]
set_option maxRecDepth 20000 in
set_option maxHeartbeats 4000000 in
def J_X8_in_18   (t0 : Int32) (S : St) : Option (Int32 × St) :=
  zr t0 S
set_option maxRecDepth 20000 in
set_option maxHeartbeats 4000000 in
def J_X8_in_17    (S : St) : Option (Int32 × St) :=
  J_X8_in_18  (0 : Int32) S
set_option maxRecDepth 20000 in
set_option maxHeartbeats 4000000 in
def F_X8_in (a1 : Int64) (a2 : Int64) (a3 : Int64) (S : St) : Option (Int32 × St) :=
  if a1 < a2 then (J_X8_in_17  S) else (if a3 < a1 then (J_X8_in_17  S) else (J_X8_in_18  (1 : Int32) S))
set_option maxRecDepth 20000 in
set_option maxHeartbeats 4000000 in
def B_X8_take_2 (rec2 : (Nat → Nat → Int32 → St → Option (Unit × St))) (x0 : Nat) (x1 : Nat) (x2 : Int32)  (S : St) : Option (Unit × St) :=
  if (2524 : Int32) ≤ x2 then (some ((), S)) else (aJ x0 x2 S fun v13 => sJ x1 x2 v13 S fun S14 => rec2 x0 x1 (x2 + 1) S14)
set_option maxRecDepth 20000 in
set_option maxHeartbeats 4000000 in
def L_X8_take_2  : Nat → Nat → Nat → Int32 → St → Option (Unit × St)
  | 0, _, _, _, _ => none
  | n + 1, x0, x1, x2, S => B_X8_take_2  (L_X8_take_2  n) x0 x1 x2 S
set_option maxRecDepth 20000 in
set_option maxHeartbeats 4000000 in
def F_X8_take (a1 : Nat) (a2 : Nat) (S : St) : Option (Unit × St) :=
  L_X8_take_2  6000 a1 a2 (0 : Int32) S
set_option maxRecDepth 20000 in
set_option maxHeartbeats 4000000 in
def J_X8_isLeap_11   (t0 : Int32) (S : St) : Option (Int32 × St) :=
  zr t0 S
set_option maxRecDepth 20000 in
set_option maxHeartbeats 4000000 in
def F_X8_isLeap (a1 : Int32) (S : St) : Option (Int32 × St) :=
  if ¬ (a1 - a1 / (4 : Int32) * (4 : Int32)) = 0 then (J_X8_isLeap_11  (0 : Int32) S) else (J_X8_isLeap_11  (1 : Int32) S)
set_option maxRecDepth 20000 in
set_option maxHeartbeats 4000000 in
def J_X8_lastOf_52   (t0 : Int32) (S : St) : Option (Int32 × St) :=
  some (t0, S)
set_option maxRecDepth 20000 in
set_option maxHeartbeats 4000000 in
def J_X8_lastOf_45    (S : St) : Option (Int32 × St) :=
  J_X8_lastOf_52  (30 : Int32) S
set_option maxRecDepth 20000 in
set_option maxHeartbeats 4000000 in
def F_X8_lastOf (a1 : Int32) (a2 : Int32) (S : St) : Option (Int32 × St) :=
  if ¬ a2 = (2 : Int32) then (if a2 = (4 : Int32) then (J_X8_lastOf_45  S) else (if a2 = (6 : Int32) then (J_X8_lastOf_45  S) else (if a2 = (9 : Int32) then (J_X8_lastOf_45  S) else (if ¬ a2 = (11 : Int32) then (J_X8_lastOf_52  (31 : Int32) S) else (J_X8_lastOf_45  S))))) else (cl (F_X8_isLeap a1 S) fun r6 S6 => if r6 = 0 then (J_X8_lastOf_52  (28 : Int32) S6) else (J_X8_lastOf_52  (29 : Int32) S6))
set_option maxRecDepth 20000 in
set_option maxHeartbeats 4000000 in
def J_X8_yearOf_42   (t0 : Int32) (S : St) : Option (Int32 × St) :=
  some (t0, S)
set_option maxRecDepth 20000 in
set_option maxHeartbeats 4000000 in
def F_X8_yearOf (a1 : Int32) (S : St) : Option (Int32 × St) :=
  bd (((2000 : Int32) + ((a1 / (1461 : Int32)) * (4 : Int32)))) fun v11 => bd ((a1 - a1 / (1461 : Int32) * (1461 : Int32))) fun v17 => if (366 : Int32) ≤ v17 then (J_X8_yearOf_42  ((v11 + (1 : Int32)) + ((v17 - (366 : Int32)) / (365 : Int32))) S) else (J_X8_yearOf_42  v11 S)
set_option maxRecDepth 20000 in
set_option maxHeartbeats 4000000 in
def F_X8_yearStart (a1 : Int32) (S : St) : Option (Int32 × St) :=
  bd ((a1 - (2000 : Int32))) fun v5 => some ((((365 : Int32) * v5) + ((v5 + (3 : Int32)) / (4 : Int32))), S)
set_option maxRecDepth 20000 in
set_option maxHeartbeats 4000000 in
def B_X8_monthAndDay_14 (rec14 : (Int32 → Int32 → Int32 → St → Option (Int32 × St))) (x1 : Int32) (x2 : Int32) (x3 : Int32)  (S : St) : Option (Int32 × St) :=
  cl (F_X8_lastOf x1 x3 S) fun r17 S17 => if x2 < r17 then (some (((((100 : Int32) * x3) + x2) + (1 : Int32)), S17)) else (cl (F_X8_lastOf x1 x3 S17) fun r26 S26 => bd ((x2 - r26)) fun v30 => rec14 x1 v30 (x3 + 1) S26)
set_option maxRecDepth 20000 in
set_option maxHeartbeats 4000000 in
def L_X8_monthAndDay_14  : Nat → Int32 → Int32 → Int32 → St → Option (Int32 × St)
  | 0, _, _, _, _ => none
  | n + 1, x1, x2, x3, S => B_X8_monthAndDay_14  (L_X8_monthAndDay_14  n) x1 x2 x3 S
set_option maxRecDepth 20000 in
set_option maxHeartbeats 4000000 in
def F_X8_monthAndDay (a1 : Int32) (S : St) : Option (Int32 × St) :=
  cl (F_X8_yearOf a1 S) fun r1 S1 => cl (F_X8_yearStart r1 S1) fun r7 S7 => bd ((a1 - r7)) fun v11 => L_X8_monthAndDay_14  6000 r1 v11 (1 : Int32) S7
set_option maxRecDepth 20000 in
set_option maxHeartbeats 4000000 in
def B_X8_toDay_12 (rec12 : (Int32 → Int32 → Int32 → Int32 → St → Option (Int32 × St))) (x0 : Int32) (x1 : Int32) (x3 : Int32) (x4 : Int32)  (S : St) : Option (Int32 × St) :=
  if x1 ≤ x4 then (some (x3, S)) else (cl (F_X8_lastOf x0 x4 S) fun r22 S22 => bd ((x3 + r22)) fun v26 => rec12 x0 x1 v26 (x4 + 1) S22)
set_option maxRecDepth 20000 in
set_option maxHeartbeats 4000000 in
def L_X8_toDay_12  : Nat → Int32 → Int32 → Int32 → Int32 → St → Option (Int32 × St)
  | 0, _, _, _, _, _ => none
  | n + 1, x0, x1, x3, x4, S => B_X8_toDay_12  (L_X8_toDay_12  n) x0 x1 x3 x4 S
set_option maxRecDepth 20000 in
set_option maxHeartbeats 4000000 in
def F_X8_toDay (a1 : Int32) (a2 : Int32) (a3 : Int32) (S : St) : Option (Int32 × St) :=
  cl (F_X8_yearStart a1 S) fun r1 S1 => bd (((r1 + a3) - (1 : Int32))) fun v8 => L_X8_toDay_12  6000 a1 a2 v8 (1 : Int32) S1
set_option maxRecDepth 20000 in
set_option maxHeartbeats 4000000 in
def F_X8_isDay (a1 : Int32) (S : St) : Option (Int32 × St) :=
  cl (F_X8_in (Int32.toInt64 a1) (0 : Int64) (36524 : Int64) S) fun r6 S6 => zr r6 S6
set_option maxRecDepth 20000 in
set_option maxHeartbeats 4000000 in
def J_X8_date_19    (S : St) : Option (Int32 × St) :=
  some ((-1 : Int32), S)
set_option maxRecDepth 20000 in
set_option maxHeartbeats 4000000 in
def J_X8_date_78   (t0 : Int32) (S : St) : Option (Int32 × St) :=
  some (t0, S)
set_option maxRecDepth 20000 in
set_option maxHeartbeats 4000000 in
def F_X8_date (c : Nat) (a1 : Int32) (a2 : Int32) (S : St) : Option (Int32 × St) :=
  cl (F_X8_isDay a1 S) fun r1 S1 => if r1 = 0 then (J_X8_date_19  S1) else (cl (F_X8_in (Int32.toInt64 a2) (0 : Int64) (3 : Int64) S1) fun r13 S13 => if ¬ r13 = 0 then (cl (F_X8_yearOf a1 S13) fun r22 S22 => cl (F_X8_monthAndDay a1 S22) fun r27 S27 => if ¬ a2 = 0 then (if ¬ a2 = (1 : Int32) then (if ¬ a2 = (2 : Int32) then (cl (F_X8_isLeap r22 S27) fun r67 S67 => if r67 = 0 then (J_X8_date_78  (0 : Int32) S67) else (J_X8_date_78  (1 : Int32) S67)) else (J_X8_date_78  (r27 - r27 / (100 : Int32) * (100 : Int32)) S27)) else (J_X8_date_78  (r27 / (100 : Int32)) S27)) else (J_X8_date_78  r22 S27)) else (J_X8_date_19  S13))
set_option maxRecDepth 20000 in
set_option maxHeartbeats 4000000 in
def J_X8_dayOf_62   (t0 : Int32) (S : St) : Option (Int32 × St) :=
  some (t0, S)
set_option maxRecDepth 20000 in
set_option maxHeartbeats 4000000 in
def J_X8_dayOf_45  (x1 : Int32) (x2 : Int32) (x3 : Int32) (t0 : Int32) (S : St) : Option (Int32 × St) :=
  if t0 = 0 then (J_X8_dayOf_62  (-1 : Int32) S) else (cl (F_X8_toDay x1 x2 x3 S) fun r55 S55 => J_X8_dayOf_62  r55 S55)
set_option maxRecDepth 20000 in
set_option maxHeartbeats 4000000 in
def J_X8_dayOf_44  (x1 : Int32) (x2 : Int32) (x3 : Int32)  (S : St) : Option (Int32 × St) :=
  J_X8_dayOf_45  x1 x2 x3 (0 : Int32) S
set_option maxRecDepth 20000 in
set_option maxHeartbeats 4000000 in
def F_X8_dayOf (c : Nat) (a1 : Int32) (a2 : Int32) (a3 : Int32) (S : St) : Option (Int32 × St) :=
  cl (F_X8_in (Int32.toInt64 a1) (2000 : Int64) (2099 : Int64) S) fun r8 S8 => if r8 = 0 then (J_X8_dayOf_44  a1 a2 a3 S8) else (cl (F_X8_in (Int32.toInt64 a2) (1 : Int64) (12 : Int64) S8) fun r20 S20 => if r20 = 0 then (J_X8_dayOf_44  a1 a2 a3 S20) else (if a3 < (1 : Int32) then (J_X8_dayOf_44  a1 a2 a3 S20) else (cl (F_X8_lastOf a1 a2 S20) fun r34 S34 => if r34 < a3 then (J_X8_dayOf_44  a1 a2 a3 S34) else (J_X8_dayOf_45  a1 a2 a3 (1 : Int32) S34))))
set_option maxRecDepth 20000 in
set_option maxHeartbeats 4000000 in
def J_X8_monthsBehind_80   (t0 : Int32) (t1 : Int32) (t2 : Int32) (S : St) : Option (Int32 × St) :=
  cl (F_X8_toDay t2 t1 t0 S) fun r80 S80 => some (r80, S80)
set_option maxRecDepth 20000 in
set_option maxHeartbeats 4000000 in
def F_X8_monthsBehind (a1 : Int32) (a2 : Int32) (S : St) : Option (Int32 × St) :=
  cl (F_X8_monthAndDay a1 S) fun r1 S1 => cl (F_X8_yearOf a1 S1) fun r8 S8 => bd ((((((12 : Int32) * r8) + (r1 / (100 : Int32))) - (1 : Int32)) + a2)) fun v21 => bd ((v21 / (12 : Int32))) fun v26 => bd (((v21 - v21 / (12 : Int32) * (12 : Int32)) + (1 : Int32))) fun v34 => if v26 ≤ (2099 : Int32) then (cl (F_X8_lastOf v26 v34 S8) fun r51 S51 => bd ((r1 - r1 / (100 : Int32) * (100 : Int32))) fun v60 => if r51 ≤ v60 then (J_X8_monthsBehind_80  r51 v34 v26 S51) else (J_X8_monthsBehind_80  v60 v34 v26 S51)) else (some ((36525 : Int32), S8))
set_option maxRecDepth 20000 in
set_option maxHeartbeats 4000000 in
def J_X8_leapDays_72 (rec6 : (Int32 → Int32 → Int32 → Int32 → St → Option (Int32 × St))) (x0 : Int32) (x1 : Int32) (x3 : Int32) (t0 : Int32) (t1 : Int32) (S : St) : Option (Int32 × St) :=
  bd ((t1 + t0)) fun v73 => rec6 x0 x1 v73 (x3 + 4) S
set_option maxRecDepth 20000 in
set_option maxHeartbeats 4000000 in
def J_X8_leapDays_53 (rec6 : (Int32 → Int32 → Int32 → Int32 → St → Option (Int32 × St))) (x0 : Int32) (x1 : Int32) (x2 : Int32) (x3 : Int32) (x6 : Int32) (t0 : Int32) (S : St) : Option (Int32 × St) :=
  if t0 ≤ x6 then (J_X8_leapDays_72 rec6 x0 x1 x3 (0 : Int32) x2 S) else (J_X8_leapDays_72 rec6 x0 x1 x3 (t0 - x6) x2 S)
set_option maxRecDepth 20000 in
set_option maxHeartbeats 4000000 in
def J_X8_leapDays_39 (rec6 : (Int32 → Int32 → Int32 → Int32 → St → Option (Int32 × St))) (x0 : Int32) (x1 : Int32) (x2 : Int32) (x3 : Int32) (x5 : Int32) (t0 : Int32) (S : St) : Option (Int32 × St) :=
  if x1 ≤ x5 then (J_X8_leapDays_53 rec6 x0 x1 x2 x3 t0 x1 S) else (J_X8_leapDays_53 rec6 x0 x1 x2 x3 t0 x5 S)
set_option maxRecDepth 20000 in
set_option maxHeartbeats 4000000 in
def B_X8_leapDays_6 (rec6 : (Int32 → Int32 → Int32 → Int32 → St → Option (Int32 × St))) (x0 : Int32) (x1 : Int32) (x2 : Int32) (x3 : Int32)  (S : St) : Option (Int32 × St) :=
  if (2096 : Int32) < x3 then (some (x2, S)) else (cl (F_X8_yearStart x3 S) fun r14 S14 => bd ((r14 + (366 : Int32))) fun v25 => if r14 ≤ x0 then (J_X8_leapDays_39 rec6 x0 x1 x2 x3 v25 x0 S14) else (J_X8_leapDays_39 rec6 x0 x1 x2 x3 v25 r14 S14))
set_option maxRecDepth 20000 in
set_option maxHeartbeats 4000000 in
def L_X8_leapDays_6  : Nat → Int32 → Int32 → Int32 → Int32 → St → Option (Int32 × St)
  | 0, _, _, _, _, _ => none
  | n + 1, x0, x1, x2, x3, S => B_X8_leapDays_6  (L_X8_leapDays_6  n) x0 x1 x2 x3 S
set_option maxRecDepth 20000 in
set_option maxHeartbeats 4000000 in
def F_X8_leapDays (a1 : Int32) (a2 : Int32) (S : St) : Option (Int32 × St) :=
  L_X8_leapDays_6  6000 a1 a2 (0 : Int32) (2000 : Int32) S
set_option maxRecDepth 20000 in
set_option maxHeartbeats 4000000 in
def J_X8_thirties_48  (x0 : Int32) (x1 : Int32) (x2 : Int32) (x3 : Int32) (x4 : Int32) (t0 : Int32) (S : St) : Option (Int32 × St) :=
  cl (F_X8_yearOf x1 S) fun r54 S54 => cl (F_X8_yearOf x0 S54) fun r58 S58 => some ((((((360 : Int32) * (r54 - r58)) + ((30 : Int32) * ((x3 / (100 : Int32)) - (x2 / (100 : Int32))))) + t0) - x4), S58)
set_option maxRecDepth 20000 in
set_option maxHeartbeats 4000000 in
def J_X8_thirties_28  (x0 : Int32) (x1 : Int32) (x2 : Int32) (x3 : Int32) (t0 : Int32) (S : St) : Option (Int32 × St) :=
  if (x3 - x3 / (100 : Int32) * (100 : Int32)) ≤ (30 : Int32) then (J_X8_thirties_48  x0 x1 x2 x3 t0 (x3 - x3 / (100 : Int32) * (100 : Int32)) S) else (J_X8_thirties_48  x0 x1 x2 x3 t0 (30 : Int32) S)
set_option maxRecDepth 20000 in
set_option maxHeartbeats 4000000 in
def F_X8_thirties (a1 : Int32) (a2 : Int32) (S : St) : Option (Int32 × St) :=
  cl (F_X8_monthAndDay a1 S) fun r1 S1 => cl (F_X8_monthAndDay a2 S1) fun r6 S6 => if (r1 - r1 / (100 : Int32) * (100 : Int32)) ≤ (30 : Int32) then (J_X8_thirties_28  a1 a2 r1 r6 (r1 - r1 / (100 : Int32) * (100 : Int32)) S6) else (J_X8_thirties_28  a1 a2 r1 r6 (30 : Int32) S6)
set_option maxRecDepth 20000 in
set_option maxHeartbeats 4000000 in
def J_X8_interestOf_125   (t0 : Int32) (t1 : Int64) (S : St) : Option (Int64 × St) :=
  some ((t1 + (Int32.toInt64 t0)), S)
set_option maxRecDepth 20000 in
set_option maxHeartbeats 4000000 in
def J_X8_interestOf_84  (x0 : Int64) (x2 : Int64) (x7 : Int64) (x9 : Int64)  (S : St) : Option (Int64 × St) :=
  bd (((x0 * x2) * x7)) fun v90 => bd ((x9 * (10000 : Int64))) fun v98 => nz 0 v98 <| nz 0 v98 <| if ((v90 - v90 / v98 * v98) * (2 : Int64)) < v98 then (J_X8_interestOf_125  (0 : Int32) (v90 / v98) S) else (J_X8_interestOf_125  (1 : Int32) (v90 / v98) S)
set_option maxRecDepth 20000 in
set_option maxHeartbeats 4000000 in
def J_X8_interestOf_39  (x0 : Int64) (x2 : Int64) (x4 : Int32) (x5 : Int32) (x6 : Int32) (x7 : Int64) (t0 : Int64) (S : St) : Option (Int64 × St) :=
  if ¬ x4 = (3 : Int32) then (J_X8_interestOf_84  x0 x2 x7 t0 S) else (cl (F_X8_leapDays x5 x6 S) fun r51 S51 => bd ((Int32.toInt64 r51)) fun v55 => bd (((v55 * (365 : Int64)) + (((Int32.toInt64 (x6 - x5)) - v55) * (366 : Int64)))) fun v77 => J_X8_interestOf_84  x0 x2 v77 (133590 : Int64) S51)
set_option maxRecDepth 20000 in
set_option maxHeartbeats 4000000 in
def J_X8_interestOf_22  (x0 : Int64) (x2 : Int64) (x4 : Int32) (x5 : Int32) (x6 : Int32) (t0 : Int64) (S : St) : Option (Int64 × St) :=
  if ¬ x4 = (2 : Int32) then (J_X8_interestOf_39  x0 x2 x4 x5 x6 t0 (360 : Int64) S) else (J_X8_interestOf_39  x0 x2 x4 x5 x6 t0 (365 : Int64) S)
set_option maxRecDepth 20000 in
set_option maxHeartbeats 4000000 in
def F_X8_interestOf (a1 : Int64) (a2 : Int64) (a3 : Int32) (a4 : Int32) (a5 : Int32) (S : St) : Option (Int64 × St) :=
  if ¬ a3 = 0 then (J_X8_interestOf_22  a1 a2 a3 a4 a5 (Int32.toInt64 (a5 - a4)) S) else (cl (F_X8_thirties a4 a5 S) fun r9 S9 => J_X8_interestOf_22  a1 a2 a3 a4 a5 (Int32.toInt64 r9) S9)
set_option maxRecDepth 20000 in
set_option maxHeartbeats 4000000 in
def J_X8_interest_89   (t0 : Int64) (S : St) : Option (Int64 × St) :=
  some (t0, S)
set_option maxRecDepth 20000 in
set_option maxHeartbeats 4000000 in
def J_X8_interest_64  (x1 : Int64) (x3 : Int32) (x4 : Int32) (x5 : Int32) (x6 : Int32) (t0 : Int32) (S : St) : Option (Int64 × St) :=
  if t0 = 0 then (J_X8_interest_89  (-1 : Int64) S) else (cl (F_X8_interestOf x1 (Int32.toInt64 x3) x4 x5 x6 S) fun r80 S80 => J_X8_interest_89  r80 S80)
set_option maxRecDepth 20000 in
set_option maxHeartbeats 4000000 in
def J_X8_interest_63  (x1 : Int64) (x3 : Int32) (x4 : Int32) (x5 : Int32) (x6 : Int32)  (S : St) : Option (Int64 × St) :=
  J_X8_interest_64  x1 x3 x4 x5 x6 (0 : Int32) S
set_option maxRecDepth 20000 in
set_option maxHeartbeats 4000000 in
def F_X8_interest (c : Nat) (a1 : Int64) (a2 : Int32) (a3 : Int32) (a4 : Int32) (a5 : Int32) (S : St) : Option (Int64 × St) :=
  cl (F_X8_in a1 (0 : Int64) (100000000 : Int64) S) fun r5 S5 => if r5 = 0 then (J_X8_interest_63  a1 a2 a3 a4 a5 S5) else (cl (F_X8_in (Int32.toInt64 a2) (0 : Int64) (5000 : Int64) S5) fun r17 S17 => if r17 = 0 then (J_X8_interest_63  a1 a2 a3 a4 a5 S17) else (cl (F_X8_in (Int32.toInt64 a3) (0 : Int64) (3 : Int64) S17) fun r30 S30 => if r30 = 0 then (J_X8_interest_63  a1 a2 a3 a4 a5 S30) else (cl (F_X8_isDay a4 S30) fun r38 S38 => if r38 = 0 then (J_X8_interest_63  a1 a2 a3 a4 a5 S38) else (cl (F_X8_isDay a5 S38) fun r46 S46 => if r46 = 0 then (J_X8_interest_63  a1 a2 a3 a4 a5 S46) else (if a5 < a4 then (J_X8_interest_63  a1 a2 a3 a4 a5 S46) else (J_X8_interest_64  a1 a2 a3 a4 a5 (1 : Int32) S46))))))
set_option maxRecDepth 20000 in
set_option maxHeartbeats 4000000 in
def F_X8_isLoan (c : Nat) (a1 : Int32) (S : St) : Option (Int32 × St) :=
  gR 6 0 c fun v4 => aJ v4 (2520 : Int32) S fun v10 => cl (F_X8_in (Int32.toInt64 a1) (0 : Int64) (v10 - (1 : Int64)) S) fun r13 S13 => zr r13 S13
set_option maxRecDepth 20000 in
set_option maxHeartbeats 4000000 in
def F_X8_at (c : Nat) (a1 : Int32) (a2 : Int32) (S : St) : Option (Int64 × St) :=
  gR 6 0 c fun v1 => aJ v1 ((a1 * (315 : Int32)) + a2) S fun v11 => some (v11, S)
set_option maxRecDepth 20000 in
set_option maxHeartbeats 4000000 in
def F_X8_sets (c : Nat) (a1 : Int32) (a2 : Int32) (a3 : Int64) (S : St) : Option (Unit × St) :=
  gR 6 0 c fun v1 => sJ v1 ((a1 * (315 : Int32)) + a2) a3 S fun S12 => some ((), S12)
set_option maxRecDepth 20000 in
set_option maxHeartbeats 4000000 in
def J_X8_endOf_27   (t0 : Int32) (S : St) : Option (Int32 × St) :=
  some (t0, S)
set_option maxRecDepth 20000 in
set_option maxHeartbeats 4000000 in
def F_X8_endOf (c : Nat) (a1 : Int32) (a2 : Int32) (S : St) : Option (Int32 × St) :=
  if ¬ a2 = 0 then (gk c 6 <| cl (F_X8_at c a1 (6 : Int32) S) fun r19 S19 => cl (F_X8_monthsBehind (Int64.toInt32 r19) a2 S19) fun r24 S24 => J_X8_endOf_27  r24 S24) else (gk c 6 <| cl (F_X8_at c a1 (6 : Int32) S) fun r8 S8 => J_X8_endOf_27  (Int64.toInt32 r8) S8)
set_option maxRecDepth 20000 in
set_option maxHeartbeats 4000000 in
def F_X8_periodInterest (c : Nat) (a1 : Int32) (a2 : Int64) (a3 : Int32) (S : St) : Option (Int64 × St) :=
  gk c 6 <| cl (F_X8_at c a1 (1 : Int32) S) fun r4 S4 => gk c 6 <| cl (F_X8_at c a1 (2 : Int32) S4) fun r10 S10 => gk c 6 <| cl (F_X8_endOf c a1 a3 S10) fun r18 S18 => gk c 6 <| cl (F_X8_endOf c a1 (a3 + (1 : Int32)) S18) fun r27 S27 => cl (F_X8_interestOf a2 r4 (Int64.toInt32 r10) r18 r27 S27) fun r30 S30 => some (r30, S30)
set_option maxRecDepth 20000 in
set_option maxHeartbeats 4000000 in
def J_X8_cut_23   (t0 : Int64) (S : St) : Option (Int64 × St) :=
  some (t0, S)
set_option maxRecDepth 20000 in
set_option maxHeartbeats 4000000 in
def F_X8_cut (a1 : Int64) (a2 : Int64) (a3 : Int64) (S : St) : Option (Int64 × St) :=
  if a2 ≤ a1 then (if a1 ≤ a3 then (J_X8_cut_23  a1 S) else (J_X8_cut_23  a3 S)) else (J_X8_cut_23  a2 S)
set_option maxRecDepth 20000 in
set_option maxHeartbeats 4000000 in
def J_X8_repays_72   (t0 : Int32) (S : St) : Option (Int32 × St) :=
  zr t0 S
set_option maxRecDepth 20000 in
set_option maxHeartbeats 4000000 in
def B_X8_repays_19 (rec19 : (Nat → Int32 → Int64 → Int64 → Int32 → St → Option (Int32 × St))) (x0 : Nat) (x1 : Int32) (x2 : Int64) (x4 : Int64) (x6 : Int32)  (S : St) : Option (Int32 × St) :=
  gk x0 6 <| cl (F_X8_at x0 x1 (4 : Int32) S) fun r25 S25 => if r25 ≤ (Int32.toInt64 x6) then (if ¬ x4 = (0 : Int64) then (J_X8_repays_72  (0 : Int32) S25) else (J_X8_repays_72  (1 : Int32) S25)) else (gk x0 6 <| cl (F_X8_periodInterest x0 x1 x4 x6 S25) fun r41 S41 => cl (F_X8_cut (x2 - r41) (0 : Int64) x4 S41) fun r48 S48 => bd ((x4 - r48)) fun v52 => rec19 x0 x1 x2 v52 (x6 + 1) S48)
set_option maxRecDepth 20000 in
set_option maxHeartbeats 4000000 in
def L_X8_repays_19  : Nat → Nat → Int32 → Int64 → Int64 → Int32 → St → Option (Int32 × St)
  | 0, _, _, _, _, _, _ => none
  | n + 1, x0, x1, x2, x4, x6, S => B_X8_repays_19  (L_X8_repays_19  n) x0 x1 x2 x4 x6 S
set_option maxRecDepth 20000 in
set_option maxHeartbeats 4000000 in
def F_X8_repays (c : Nat) (a1 : Int32) (a2 : Int64) (S : St) : Option (Int32 × St) :=
  gk c 6 <| cl (F_X8_at c a1 (8 : Int32) S) fun r4 S4 => gk c 6 <| cl (F_X8_at c a1 (7 : Int32) S4) fun r13 S13 => bd ((Int64.toInt32 r13)) fun v17 => L_X8_repays_19  6000 c a1 a2 r4 v17 S13
set_option maxRecDepth 20000 in
set_option maxHeartbeats 4000000 in
def J_X8_level_23    (S : St) : Option (Unit × St) :=
  some ((), S)
set_option maxRecDepth 20000 in
set_option maxHeartbeats 4000000 in
def J_X8_level_70 (rec31 : (Nat → Int32 → Int64 → Int64 → St → Option (Unit × St))) (x0 : Nat) (x1 : Int32) (x2 : Int64) (x4 : Int64)  (S : St) : Option (Unit × St) :=
  rec31 x0 x1 x2 x4 S
set_option maxRecDepth 20000 in
set_option maxHeartbeats 4000000 in
def B_X8_level_31 (rec31 : (Nat → Int32 → Int64 → Int64 → St → Option (Unit × St))) (x0 : Nat) (x1 : Int32) (x2 : Int64) (x4 : Int64)  (S : St) : Option (Unit × St) :=
  if x4 ≤ x2 then (gk x0 6 <| cl (F_X8_sets x0 x1 (9 : Int32) x2 S) fun _ S78 => some ((), S78)) else (bd (((x2 + x4) / (2 : Int64))) fun v46 => gk x0 6 <| cl (F_X8_repays x0 x1 v46 S) fun r52 S52 => if r52 = 0 then (bd ((v46 + (1 : Int64))) fun v69 => J_X8_level_70 rec31 x0 x1 v69 x4 S52) else (J_X8_level_70 rec31 x0 x1 x2 v46 S52))
set_option maxRecDepth 20000 in
set_option maxHeartbeats 4000000 in
def L_X8_level_31  : Nat → Nat → Int32 → Int64 → Int64 → St → Option (Unit × St)
  | 0, _, _, _, _, _ => none
  | n + 1, x0, x1, x2, x4, S => B_X8_level_31  (L_X8_level_31  n) x0 x1 x2 x4 S
set_option maxRecDepth 20000 in
set_option maxHeartbeats 4000000 in
def F_X8_level (c : Nat) (a1 : Int32) (S : St) : Option (Unit × St) :=
  gk c 6 <| cl (F_X8_at c a1 (3 : Int32) S) fun r3 S3 => if ¬ r3 = (0 : Int64) then (J_X8_level_23  S3) else (gk c 6 <| cl (F_X8_at c a1 (8 : Int32) S3) fun r15 S15 => if ¬ r15 = (0 : Int64) then (L_X8_level_31  6000 c a1 (0 : Int64) (200000000 : Int64) S15) else (J_X8_level_23  S15))
set_option maxRecDepth 20000 in
set_option maxHeartbeats 4000000 in
def B_X8_loan_158 (rec158 : (Nat → Int64 → Int32 → Int32 → Int32 → Int32 → Int32 → St → Option (Int32 × St))) (x0 : Nat) (x1 : Int64) (x3 : Int32) (x4 : Int32) (x5 : Int32) (x7 : Int32) (x8 : Int32)  (S : St) : Option (Int32 × St) :=
  if (315 : Int32) ≤ x8 then (gk x0 6 <| cl (F_X8_sets x0 x7 (0 : Int32) x1 S) fun _ S186 => gk x0 6 <| cl (F_X8_sets x0 x7 (1 : Int32) (Int32.toInt64 x3) S186) fun _ S195 => gk x0 6 <| cl (F_X8_sets x0 x7 (2 : Int32) (Int32.toInt64 x4) S195) fun _ S205 => gk x0 6 <| cl (F_X8_sets x0 x7 (3 : Int32) (Int32.toInt64 (x5 / (1000 : Int32))) S205) fun _ S219 => gk x0 6 <| cl (F_X8_sets x0 x7 (5 : Int32) (Int32.toInt64 ((x5 / (100 : Int32)) - (x5 / (100 : Int32)) / (10 : Int32) * (10 : Int32))) S219) fun _ S235 => gk x0 6 <| cl (F_X8_sets x0 x7 (4 : Int32) (Int32.toInt64 (x5 - x5 / (100 : Int32) * (100 : Int32))) S235) fun _ S248 => gR 6 0 x0 fun v257 => aJ v257 (2521 : Int32) S248 fun v263 => gk x0 6 <| cl (F_X8_sets x0 x7 (6 : Int32) v263 S248) fun _ S264 => gk x0 6 <| cl (F_X8_sets x0 x7 (8 : Int32) x1 S264) fun _ S273 => gk x0 6 <| cl (F_X8_level x0 x7 S273) fun _ S279 => some (x7, S279)) else (gk x0 6 <| cl (F_X8_sets x0 x7 x8 (0 : Int64) S) fun _ S172 => rec158 x0 x1 x3 x4 x5 x7 (x8 + 1) S172)
set_option maxRecDepth 20000 in
set_option maxHeartbeats 4000000 in
def L_X8_loan_158  : Nat → Nat → Int64 → Int32 → Int32 → Int32 → Int32 → Int32 → St → Option (Int32 × St)
  | 0, _, _, _, _, _, _, _, _ => none
  | n + 1, x0, x1, x3, x4, x5, x7, x8, S => B_X8_loan_158  (L_X8_loan_158  n) x0 x1 x3 x4 x5 x7 x8 S
set_option maxRecDepth 20000 in
set_option maxHeartbeats 4000000 in
def J_X8_loan_87  (x0 : Nat) (x1 : Int64) (x3 : Int32) (x4 : Int32) (x5 : Int32) (t0 : Int32) (S : St) : Option (Int32 × St) :=
  if ¬ t0 = 0 then (gR 6 0 x0 fun v97 => aJ v97 (2521 : Int32) S fun v103 => cl (F_X8_monthsBehind (Int64.toInt32 v103) (x5 - x5 / (100 : Int32) * (100 : Int32)) S) fun r110 S110 => if r110 ≤ (36524 : Int32) then (gR 6 0 x0 fun v122 => aJ v122 (2520 : Int32) S110 fun v128 => if ¬ v128 = (8 : Int64) then (gR 6 0 x0 fun v140 => aJ v140 (2520 : Int32) S110 fun v147 => sJ v140 (2520 : Int32) (v147 + (1 : Int64)) S110 fun S151 => bd ((Int64.toInt32 v147)) fun v153 => L_X8_loan_158  6000 x0 x1 x3 x4 x5 v153 (0 : Int32) S151) else (some ((-3 : Int32), S110))) else (some ((-5 : Int32), S110))) else (some ((-1 : Int32), S))
set_option maxRecDepth 20000 in
set_option maxHeartbeats 4000000 in
def J_X8_loan_86  (x0 : Nat) (x1 : Int64) (x3 : Int32) (x4 : Int32) (x5 : Int32)  (S : St) : Option (Int32 × St) :=
  J_X8_loan_87  x0 x1 x3 x4 x5 (0 : Int32) S
set_option maxRecDepth 20000 in
set_option maxHeartbeats 4000000 in
def F_X8_loan (c : Nat) (a1 : Int64) (a2 : Int32) (a3 : Int32) (a4 : Int32) (S : St) : Option (Int32 × St) :=
  cl (F_X8_in a1 (1 : Int64) (100000000 : Int64) S) fun r5 S5 => if r5 = 0 then (J_X8_loan_86  c a1 a2 a3 a4 S5) else (cl (F_X8_in (Int32.toInt64 a2) (0 : Int64) (5000 : Int64) S5) fun r17 S17 => if r17 = 0 then (J_X8_loan_86  c a1 a2 a3 a4 S17) else (cl (F_X8_in (Int32.toInt64 a3) (0 : Int64) (3 : Int64) S17) fun r30 S30 => if r30 = 0 then (J_X8_loan_86  c a1 a2 a3 a4 S30) else (cl (F_X8_in (Int32.toInt64 a4) (0 : Int64) (2999 : Int64) S30) fun r43 S43 => if r43 = 0 then (J_X8_loan_86  c a1 a2 a3 a4 S43) else (cl (F_X8_in (Int32.toInt64 ((a4 / (100 : Int32)) - (a4 / (100 : Int32)) / (10 : Int32) * (10 : Int32))) (0 : Int64) (1 : Int64) S43) fun r60 S60 => if r60 = 0 then (J_X8_loan_86  c a1 a2 a3 a4 S60) else (cl (F_X8_in (Int32.toInt64 (a4 - a4 / (100 : Int32) * (100 : Int32))) (1 : Int64) (60 : Int64) S60) fun r76 S76 => if r76 = 0 then (J_X8_loan_86  c a1 a2 a3 a4 S76) else (J_X8_loan_87  c a1 a2 a3 a4 (1 : Int32) S76))))))
set_option maxRecDepth 20000 in
set_option maxHeartbeats 4000000 in
def J_X8_principalOf_69   (t0 : Int64) (S : St) : Option (Int64 × St) :=
  some (t0, S)
set_option maxRecDepth 20000 in
set_option maxHeartbeats 4000000 in
def F_X8_principalOf (c : Nat) (a1 : Int32) (a2 : Int64) (a3 : Int64) (a4 : Int32) (S : St) : Option (Int64 × St) :=
  gk c 6 <| cl (F_X8_at c a1 (4 : Int32) S) fun r3 S3 => bd (((Int64.toInt32 r3) - a4)) fun v10 => if ¬ v10 = (1 : Int32) then (gk c 6 <| cl (F_X8_at c a1 (3 : Int32) S3) fun r23 S23 => if ¬ r23 = (0 : Int64) then (gk c 6 <| cl (F_X8_at c a1 (3 : Int32) S23) fun r52 S52 => if ¬ r52 = (1 : Int64) then (J_X8_principalOf_69  (0 : Int64) S52) else (nz 0 (Int32.toInt64 v10) <| J_X8_principalOf_69  (a2 / (Int32.toInt64 v10)) S52)) else (gk c 6 <| cl (F_X8_at c a1 (9 : Int32) S23) fun r35 S35 => cl (F_X8_cut (r35 - a3) (0 : Int64) a2 S35) fun r43 S43 => J_X8_principalOf_69  r43 S43)) else (some (a2, S3))
set_option maxRecDepth 20000 in
set_option maxHeartbeats 4000000 in
def F_X8_ends (c : Nat) (a1 : Int32) (S : St) : Option (Int32 × St) :=
  gk c 6 <| cl (F_X8_at c a1 (7 : Int32) S) fun r4 S4 => bd ((Int64.toInt32 r4)) fun v8 => gk c 6 <| cl (F_X8_at c a1 (8 : Int32) S4) fun r13 S13 => gk c 6 <| cl (F_X8_periodInterest c a1 r13 v8 S13) fun r21 S21 => gk c 6 <| cl (F_X8_principalOf c a1 r13 r21 v8 S21) fun r32 S32 => gk c 6 <| cl (F_X8_sets c a1 (7 : Int32) (Int32.toInt64 (v8 + (1 : Int32))) S32) fun _ S45 => gk c 6 <| cl (F_X8_sets c a1 (8 : Int32) (r13 - r32) S45) fun _ S56 => if ¬ (r21 + r32) = (0 : Int64) then (gk c 6 <| cl (F_X8_at c a1 (14 : Int32) S56) fun r78 S78 => bd (((15 : Int32) + ((5 : Int32) * (Int64.toInt32 r78)))) fun v84 => gR 6 0 c fun v91 => aJ v91 (2521 : Int32) S78 fun v97 => gk c 6 <| cl (F_X8_sets c a1 v84 v97 S78) fun _ S98 => gk c 6 <| cl (F_X8_sets c a1 (v84 + (1 : Int32)) r21 S98) fun _ S109 => gk c 6 <| cl (F_X8_sets c a1 (v84 + (2 : Int32)) r32 S109) fun _ S120 => gk c 6 <| cl (F_X8_sets c a1 (v84 + (3 : Int32)) (0 : Int64) S120) fun _ S130 => gk c 6 <| cl (F_X8_sets c a1 (v84 + (4 : Int32)) (0 : Int64) S130) fun _ S140 => gk c 6 <| cl (F_X8_at c a1 (14 : Int32) S140) fun r151 S151 => gk c 6 <| cl (F_X8_sets c a1 (14 : Int32) (r151 + (1 : Int64)) S151) fun _ S156 => zr (1 : Int32) S156) else (zr (0 : Int32) S56)
set_option maxRecDepth 20000 in
set_option maxHeartbeats 4000000 in
def J_X8_fees_87 (rec2 : (Nat → Int32 → Int32 → St → Option (Unit × St))) (x0 : Nat) (x1 : Int32) (x2 : Int32)  (S : St) : Option (Unit × St) :=
  rec2 x0 x1 (x2 + 1) S
set_option maxRecDepth 20000 in
set_option maxHeartbeats 4000000 in
def B_X8_fees_2 (rec2 : (Nat → Int32 → Int32 → St → Option (Unit × St))) (x0 : Nat) (x1 : Int32) (x2 : Int32)  (S : St) : Option (Unit × St) :=
  gk x0 6 <| cl (F_X8_at x0 x1 (14 : Int32) S) fun r8 S8 => if r8 ≤ (Int32.toInt64 x2) then (some ((), S8)) else (bd (((15 : Int32) + ((5 : Int32) * x2))) fun v21 => gk x0 6 <| cl (F_X8_at x0 x1 (v21 + (4 : Int32)) S8) fun r27 S27 => if ¬ r27 = (0 : Int64) then (J_X8_fees_87 rec2 x0 x1 x2 S27) else (gR 6 0 x0 fun v36 => aJ v36 (2521 : Int32) S27 fun v42 => gk x0 6 <| cl (F_X8_at x0 x1 v21 S27) fun r46 S46 => gR 6 0 x0 fun v51 => aJ v51 (2522 : Int32) S46 fun v57 => if ¬ (v42 - r46) = v57 then (J_X8_fees_87 rec2 x0 x1 x2 S46) else (gR 6 0 x0 fun v68 => aJ v68 (2523 : Int32) S46 fun v74 => gk x0 6 <| cl (F_X8_sets x0 x1 (v21 + (3 : Int32)) v74 S46) fun _ S75 => gk x0 6 <| cl (F_X8_sets x0 x1 (v21 + (4 : Int32)) (1 : Int64) S75) fun _ S84 => J_X8_fees_87 rec2 x0 x1 x2 S84)))
set_option maxRecDepth 20000 in
set_option maxHeartbeats 4000000 in
def L_X8_fees_2  : Nat → Nat → Int32 → Int32 → St → Option (Unit × St)
  | 0, _, _, _, _ => none
  | n + 1, x0, x1, x2, S => B_X8_fees_2  (L_X8_fees_2  n) x0 x1 x2 S
set_option maxRecDepth 20000 in
set_option maxHeartbeats 4000000 in
def F_X8_fees (c : Nat) (a1 : Int32) (S : St) : Option (Unit × St) :=
  L_X8_fees_2  6000 c a1 (0 : Int32) S
set_option maxRecDepth 20000 in
set_option maxHeartbeats 4000000 in
def J_X8_days_139 (rec39 : (Nat → Int32 → Int32 → Int32 → St → Option (Int32 × St))) (rec59 : (Nat → Int32 → Int32 → Int32 → Int32 → St → Option (Int32 × St))) (x0 : Nat) (x1 : Int32) (x2 : Int32) (x3 : Int32) (x4 : Int32)  (S : St) : Option (Int32 × St) :=
  rec59 x0 x1 x2 x3 (x4 + 1) S
set_option maxRecDepth 20000 in
set_option maxHeartbeats 4000000 in
def J_X8_days_137 (rec39 : (Nat → Int32 → Int32 → Int32 → St → Option (Int32 × St))) (rec59 : (Nat → Int32 → Int32 → Int32 → Int32 → St → Option (Int32 × St))) (x0 : Nat) (x1 : Int32) (x3 : Int32) (x4 : Int32) (t0 : Int32) (t1 : Int32) (S : St) : Option (Int32 × St) :=
  bd ((t1 + t0)) fun v138 => J_X8_days_139 rec39 rec59 x0 x1 v138 x3 x4 S
set_option maxRecDepth 20000 in
set_option maxHeartbeats 4000000 in
def B_X8_days_148 (rec39 : (Nat → Int32 → Int32 → Int32 → St → Option (Int32 × St))) (rec148 : (Nat → Int32 → Int32 → Int32 → Int32 → St → Option (Int32 × St))) (x0 : Nat) (x1 : Int32) (x2 : Int32) (x3 : Int32) (x4 : Int32)  (S : St) : Option (Int32 × St) :=
  gR 6 0 x0 fun v152 => aJ v152 (2520 : Int32) S fun v158 => if v158 ≤ (Int32.toInt64 x4) then (rec39 x0 x1 x2 (x3 + 1) S) else (gk x0 6 <| cl (F_X8_fees x0 x4 S) fun _ S166 => rec148 x0 x1 x2 x3 (x4 + 1) S166)
set_option maxRecDepth 20000 in
set_option maxHeartbeats 4000000 in
def L_X8_days_148 (rec39 : (Nat → Int32 → Int32 → Int32 → St → Option (Int32 × St))) : Nat → Nat → Int32 → Int32 → Int32 → Int32 → St → Option (Int32 × St)
  | 0, _, _, _, _, _, _ => none
  | n + 1, x0, x1, x2, x3, x4, S => B_X8_days_148 rec39 (L_X8_days_148 rec39 n) x0 x1 x2 x3 x4 S
set_option maxRecDepth 20000 in
set_option maxHeartbeats 4000000 in
def B_X8_days_59 (rec39 : (Nat → Int32 → Int32 → Int32 → St → Option (Int32 × St))) (rec59 : (Nat → Int32 → Int32 → Int32 → Int32 → St → Option (Int32 × St))) (x0 : Nat) (x1 : Int32) (x2 : Int32) (x3 : Int32) (x4 : Int32)  (S : St) : Option (Int32 × St) :=
  gR 6 0 x0 fun v63 => aJ v63 (2520 : Int32) S fun v69 => if v69 ≤ (Int32.toInt64 x4) then (L_X8_days_148 rec39 6000 x0 x1 x2 x3 (0 : Int32) S) else (gk x0 6 <| cl (F_X8_at x0 x4 (7 : Int32) S) fun r79 S79 => bd ((Int64.toInt32 r79)) fun v83 => gk x0 6 <| cl (F_X8_at x0 x4 (4 : Int32) S79) fun r92 S92 => if r92 ≤ (Int32.toInt64 v83) then (J_X8_days_139 rec39 rec59 x0 x1 x2 x3 x4 S92) else (gk x0 6 <| cl (F_X8_endOf x0 x4 (v83 + (1 : Int32)) S92) fun r106 S106 => gR 6 0 x0 fun v111 => aJ v111 (2521 : Int32) S106 fun v117 => if ¬ (Int32.toInt64 r106) = v117 then (J_X8_days_139 rec39 rec59 x0 x1 x2 x3 x4 S106) else (gk x0 6 <| cl (F_X8_ends x0 x4 S106) fun r126 S126 => if r126 = 0 then (J_X8_days_137 rec39 rec59 x0 x1 x3 x4 (0 : Int32) x2 S126) else (J_X8_days_137 rec39 rec59 x0 x1 x3 x4 (1 : Int32) x2 S126))))
set_option maxRecDepth 20000 in
set_option maxHeartbeats 4000000 in
def L_X8_days_59 (rec39 : (Nat → Int32 → Int32 → Int32 → St → Option (Int32 × St))) : Nat → Nat → Int32 → Int32 → Int32 → Int32 → St → Option (Int32 × St)
  | 0, _, _, _, _, _, _ => none
  | n + 1, x0, x1, x2, x3, x4, S => B_X8_days_59 rec39 (L_X8_days_59 rec39 n) x0 x1 x2 x3 x4 S
set_option maxRecDepth 20000 in
set_option maxHeartbeats 4000000 in
def B_X8_days_39 (rec39 : (Nat → Int32 → Int32 → Int32 → St → Option (Int32 × St))) (x0 : Nat) (x1 : Int32) (x2 : Int32) (x3 : Int32)  (S : St) : Option (Int32 × St) :=
  if x1 ≤ x3 then (some (x2, S)) else (gR 6 0 x0 fun v45 => aJ v45 (2521 : Int32) S fun v52 => sJ v45 (2521 : Int32) (v52 + (1 : Int64)) S fun S55 => L_X8_days_59 rec39 6000 x0 x1 x2 x3 (0 : Int32) S55)
set_option maxRecDepth 20000 in
set_option maxHeartbeats 4000000 in
def L_X8_days_39  : Nat → Nat → Int32 → Int32 → Int32 → St → Option (Int32 × St)
  | 0, _, _, _, _, _ => none
  | n + 1, x0, x1, x2, x3, S => B_X8_days_39  (L_X8_days_39  n) x0 x1 x2 x3 S
set_option maxRecDepth 20000 in
set_option maxHeartbeats 4000000 in
def F_X8_days (c : Nat) (a1 : Int32) (S : St) : Option (Int32 × St) :=
  cl (F_X8_in (Int32.toInt64 a1) (1 : Int64) (4000 : Int64) S) fun r6 S6 => if ¬ r6 = 0 then (gR 6 0 c fun v15 => aJ v15 (2521 : Int32) S6 fun v21 => if (v21 + (Int32.toInt64 a1)) ≤ (36524 : Int64) then (L_X8_days_39  6000 c a1 (0 : Int32) (0 : Int32) S6) else (some ((-5 : Int32), S6))) else (some ((-1 : Int32), S6))
set_option maxRecDepth 20000 in
set_option maxHeartbeats 4000000 in
def J_X8_paidOff_21  (x0 : Nat) (x1 : Int32) (x2 : Int32) (t0 : Int64) (S : St) : Option (Int64 × St) :=
  gk x0 6 <| cl (F_X8_at x0 x1 x2 S) fun r29 S29 => gk x0 6 <| cl (F_X8_sets x0 x1 x2 (r29 - t0) S29) fun _ S35 => some (t0, S35)
set_option maxRecDepth 20000 in
set_option maxHeartbeats 4000000 in
def F_X8_paidOff (c : Nat) (a1 : Int32) (a2 : Int32) (a3 : Int64) (S : St) : Option (Int64 × St) :=
  gk c 6 <| cl (F_X8_at c a1 a2 S) fun r3 S3 => if a3 ≤ r3 then (J_X8_paidOff_21  c a1 a2 a3 S3) else (gk c 6 <| cl (F_X8_at c a1 a2 S3) fun r14 S14 => J_X8_paidOff_21  c a1 a2 r14 S14)
set_option maxRecDepth 20000 in
set_option maxHeartbeats 4000000 in
def B_X8_firstGoes_13 (rec13 : (Nat → Int32 → Int32 → Int32 → St → Option (Unit × St))) (x0 : Nat) (x1 : Int32) (x2 : Int32) (x3 : Int32)  (S : St) : Option (Unit × St) :=
  if ((5 : Int32) * x2) ≤ x3 then (gk x0 6 <| cl (F_X8_sets x0 x1 (14 : Int32) (Int32.toInt64 x2) S) fun _ S52 => some ((), S52)) else (gk x0 6 <| cl (F_X8_at x0 x1 (((15 : Int32) + x3) + (5 : Int32)) S) fun r34 S34 => gk x0 6 <| cl (F_X8_sets x0 x1 ((15 : Int32) + x3) r34 S34) fun _ S37 => rec13 x0 x1 x2 (x3 + 1) S37)
set_option maxRecDepth 20000 in
set_option maxHeartbeats 4000000 in
def L_X8_firstGoes_13  : Nat → Nat → Int32 → Int32 → Int32 → St → Option (Unit × St)
  | 0, _, _, _, _, _ => none
  | n + 1, x0, x1, x2, x3, S => B_X8_firstGoes_13  (L_X8_firstGoes_13  n) x0 x1 x2 x3 S
set_option maxRecDepth 20000 in
set_option maxHeartbeats 4000000 in
def F_X8_firstGoes (c : Nat) (a1 : Int32) (S : St) : Option (Unit × St) :=
  gk c 6 <| cl (F_X8_at c a1 (14 : Int32) S) fun r4 S4 => bd (((Int64.toInt32 r4) - (1 : Int32))) fun v10 => L_X8_firstGoes_13  6000 c a1 v10 (0 : Int32) S4
set_option maxRecDepth 20000 in
set_option maxHeartbeats 4000000 in
def F_X8_asks (c : Nat) (a1 : Int32) (a2 : Int32) (S : St) : Option (Int64 × St) :=
  bd (((15 : Int32) + ((5 : Int32) * a2))) fun v6 => gk c 6 <| cl (F_X8_at c a1 (v6 + (1 : Int32)) S) fun r12 S12 => gk c 6 <| cl (F_X8_at c a1 (v6 + (2 : Int32)) S12) fun r20 S20 => gk c 6 <| cl (F_X8_at c a1 (v6 + (3 : Int32)) S20) fun r29 S29 => some (((r12 + r20) + r29), S29)
set_option maxRecDepth 20000 in
set_option maxHeartbeats 4000000 in
def J_X8_pays_70 (rec27 : (Nat → Int32 → Int64 → St → Option (Unit × St))) (rec49 : (Nat → Int32 → Int64 → Int32 → St → Option (Unit × St))) (x0 : Nat) (x1 : Int32) (x4 : Int64) (x6 : Int32) (t0 : Int32) (t1 : Int32) (t2 : Int32) (t3 : Nat) (S : St) : Option (Unit × St) :=
  gk t3 6 <| cl (F_X8_paidOff t3 t2 (t1 + t0) x4 S) fun r73 S73 => gR 6 10 x0 fun v79 => aJ v79 x6 S73 fun v85 => sJ v79 x6 (v85 + r73) S73 fun S89 => bd ((x4 - r73)) fun v95 => rec49 x0 x1 v95 (x6 + 1) S89
set_option maxRecDepth 20000 in
set_option maxHeartbeats 4000000 in
def J_X8_pays_246  (x0 : Nat) (x1 : Int32)  (S : St) : Option (Unit × St) :=
  gR 6 10 x0 fun v247 => gk x0 6 <| cl (F_X8_at x0 x1 (9 : Int32) S) fun r255 S255 => sJ v247 (5 : Int32) r255 S255 fun S258 => some ((), S258)
set_option maxRecDepth 20000 in
set_option maxHeartbeats 4000000 in
def B_X8_pays_158 (rec158 : (Nat → Int32 → Int32 → St → Option (Unit × St))) (x0 : Nat) (x1 : Int32) (x6 : Int32)  (S : St) : Option (Unit × St) :=
  if (3 : Int32) ≤ x6 then (gk x0 6 <| cl (F_X8_at x0 x1 (12 : Int32) S) fun r206 S206 => gR 6 10 x0 fun v210 => aJ v210 (3 : Int32) S206 fun v214 => gk x0 6 <| cl (F_X8_sets x0 x1 (12 : Int32) (r206 + v214) S206) fun _ S216 => gR 6 10 x0 fun v220 => aJ v220 (3 : Int32) S216 fun v224 => if v224 ≤ (0 : Int64) then (J_X8_pays_246  x0 x1 S216) else (gk x0 6 <| cl (F_X8_at x0 x1 (5 : Int32) S216) fun r233 S233 => if ¬ r233 = (1 : Int64) then (J_X8_pays_246  x0 x1 S233) else (gk x0 6 <| cl (F_X8_level x0 x1 S233) fun _ S243 => J_X8_pays_246  x0 x1 S243))) else (gk x0 6 <| cl (F_X8_at x0 x1 ((10 : Int32) + x6) S) fun r178 S178 => gR 6 10 x0 fun v182 => aJ v182 x6 S178 fun v187 => gk x0 6 <| cl (F_X8_sets x0 x1 ((10 : Int32) + x6) (r178 + v187) S178) fun _ S189 => rec158 x0 x1 (x6 + 1) S189)
set_option maxRecDepth 20000 in
set_option maxHeartbeats 4000000 in
def L_X8_pays_158  : Nat → Nat → Int32 → Int32 → St → Option (Unit × St)
  | 0, _, _, _, _ => none
  | n + 1, x0, x1, x6, S => B_X8_pays_158  (L_X8_pays_158  n) x0 x1 x6 S
set_option maxRecDepth 20000 in
set_option maxHeartbeats 4000000 in
def J_X8_pays_125  (x0 : Nat) (x1 : Int32) (x4 : Int64)  (S : St) : Option (Unit × St) :=
  gR 6 10 x0 fun v126 => gk x0 6 <| cl (F_X8_paidOff x0 x1 (8 : Int32) x4 S) fun r136 S136 => sJ v126 (3 : Int32) r136 S136 fun S139 => gR 6 10 x0 fun v141 => gR 6 10 x0 fun v148 => aJ v148 (3 : Int32) S139 fun v152 => sJ v141 (4 : Int32) (x4 - v152) S139 fun S154 => L_X8_pays_158  6000 x0 x1 (0 : Int32) S154
set_option maxRecDepth 20000 in
set_option maxHeartbeats 4000000 in
def B_X8_pays_49 (rec27 : (Nat → Int32 → Int64 → St → Option (Unit × St))) (rec49 : (Nat → Int32 → Int64 → Int32 → St → Option (Unit × St))) (x0 : Nat) (x1 : Int32) (x4 : Int64) (x6 : Int32)  (S : St) : Option (Unit × St) :=
  if (3 : Int32) ≤ x6 then (gk x0 6 <| cl (F_X8_asks x0 x1 (0 : Int32) S) fun r106 S106 => if r106 ≤ (0 : Int64) then (gk x0 6 <| cl (F_X8_firstGoes x0 x1 S106) fun _ S119 => rec27 x0 x1 x4 S119) else (J_X8_pays_125  x0 x1 x4 S106)) else (if ¬ x6 = 0 then (J_X8_pays_70 rec27 rec49 x0 x1 x4 x6 x6 (15 : Int32) x1 x0 S) else (J_X8_pays_70 rec27 rec49 x0 x1 x4 x6 (3 : Int32) (15 : Int32) x1 x0 S))
set_option maxRecDepth 20000 in
set_option maxHeartbeats 4000000 in
def L_X8_pays_49 (rec27 : (Nat → Int32 → Int64 → St → Option (Unit × St))) : Nat → Nat → Int32 → Int64 → Int32 → St → Option (Unit × St)
  | 0, _, _, _, _, _ => none
  | n + 1, x0, x1, x4, x6, S => B_X8_pays_49 rec27 (L_X8_pays_49 rec27 n) x0 x1 x4 x6 S
set_option maxRecDepth 20000 in
set_option maxHeartbeats 4000000 in
def B_X8_pays_27 (rec27 : (Nat → Int32 → Int64 → St → Option (Unit × St))) (x0 : Nat) (x1 : Int32) (x4 : Int64)  (S : St) : Option (Unit × St) :=
  if x4 ≤ (0 : Int64) then (J_X8_pays_125  x0 x1 x4 S) else (gk x0 6 <| cl (F_X8_at x0 x1 (14 : Int32) S) fun r38 S38 => if r38 ≤ (0 : Int64) then (J_X8_pays_125  x0 x1 x4 S38) else (L_X8_pays_49 rec27 6000 x0 x1 x4 (0 : Int32) S38))
set_option maxRecDepth 20000 in
set_option maxHeartbeats 4000000 in
def L_X8_pays_27  : Nat → Nat → Int32 → Int64 → St → Option (Unit × St)
  | 0, _, _, _, _ => none
  | n + 1, x0, x1, x4, S => B_X8_pays_27  (L_X8_pays_27  n) x0 x1 x4 S
set_option maxRecDepth 20000 in
set_option maxHeartbeats 4000000 in
def B_X8_pays_6 (rec6 : (Nat → Int32 → Int64 → Int32 → St → Option (Unit × St))) (x0 : Nat) (x1 : Int32) (x4 : Int64) (x6 : Int32)  (S : St) : Option (Unit × St) :=
  if (6 : Int32) ≤ x6 then (L_X8_pays_27  6000 x0 x1 x4 S) else (gR 6 10 x0 fun v14 => sJ v14 x6 (0 : Int64) S fun S20 => rec6 x0 x1 x4 (x6 + 1) S20)
set_option maxRecDepth 20000 in
set_option maxHeartbeats 4000000 in
def L_X8_pays_6  : Nat → Nat → Int32 → Int64 → Int32 → St → Option (Unit × St)
  | 0, _, _, _, _, _ => none
  | n + 1, x0, x1, x4, x6, S => B_X8_pays_6  (L_X8_pays_6  n) x0 x1 x4 x6 S
set_option maxRecDepth 20000 in
set_option maxHeartbeats 4000000 in
def F_X8_pays (c : Nat) (a1 : Int32) (a2 : Int64) (S : St) : Option (Unit × St) :=
  L_X8_pays_6  6000 c a1 a2 (0 : Int32) S
set_option maxRecDepth 20000 in
set_option maxHeartbeats 4000000 in
def J_X8_isPaid_24   (t0 : Int32) (S : St) : Option (Int32 × St) :=
  zr t0 S
set_option maxRecDepth 20000 in
set_option maxHeartbeats 4000000 in
def J_X8_isPaid_23    (S : St) : Option (Int32 × St) :=
  J_X8_isPaid_24  (0 : Int32) S
set_option maxRecDepth 20000 in
set_option maxHeartbeats 4000000 in
def F_X8_isPaid (c : Nat) (a1 : Int32) (a2 : Int64) (S : St) : Option (Int32 × St) :=
  gk c 6 <| cl (F_X8_isLoan c a1 S) fun r2 S2 => if r2 = 0 then (J_X8_isPaid_23  S2) else (cl (F_X8_in a2 (1 : Int64) (1000000000 : Int64) S2) fun r13 S13 => if r13 = 0 then (J_X8_isPaid_23  S13) else (J_X8_isPaid_24  (1 : Int32) S13))
set_option maxRecDepth 20000 in
set_option maxHeartbeats 4000000 in
def F_X8_pay (c : Nat) (a1 : Int32) (a2 : Int64) (S : St) : Option (Int64 × St) :=
  gk c 6 <| cl (F_X8_isPaid c a1 a2 S) fun r3 S3 => if ¬ r3 = 0 then (gk c 6 <| cl (F_X8_pays c a1 a2 S3) fun _ S16 => gR 6 10 c fun v20 => aJ v20 (4 : Int32) S16 fun v24 => some (v24, S16)) else (some ((-1 : Int64), S3))
set_option maxRecDepth 20000 in
set_option maxHeartbeats 4000000 in
def J_X8_reset_20    (S : St) : Option (Int64 × St) :=
  some ((-1 : Int64), S)
set_option maxRecDepth 20000 in
set_option maxHeartbeats 4000000 in
def F_X8_reset (c : Nat) (a1 : Int32) (a2 : Int32) (S : St) : Option (Int64 × St) :=
  gk c 6 <| cl (F_X8_isLoan c a1 S) fun r2 S2 => if r2 = 0 then (J_X8_reset_20  S2) else (cl (F_X8_in (Int32.toInt64 a2) (0 : Int64) (5000 : Int64) S2) fun r14 S14 => if ¬ r14 = 0 then (gk c 6 <| cl (F_X8_sets c a1 (1 : Int32) (Int32.toInt64 a2) S14) fun _ S29 => gk c 6 <| cl (F_X8_level c a1 S29) fun _ S34 => gk c 6 <| cl (F_X8_at c a1 (9 : Int32) S34) fun r41 S41 => some (r41, S41)) else (J_X8_reset_20  S14))
set_option maxRecDepth 20000 in
set_option maxHeartbeats 4000000 in
def B_X8_writeOff_51 (rec51 : (Nat → Int32 → Int64 → Int32 → St → Option (Int64 × St))) (x0 : Nat) (x1 : Int32) (x2 : Int64) (x4 : Int32)  (S : St) : Option (Int64 × St) :=
  gk x0 6 <| cl (F_X8_at x0 x1 (14 : Int32) S) fun r58 S58 => if r58 ≤ (Int32.toInt64 x4) then (gk x0 6 <| cl (F_X8_sets x0 x1 (8 : Int32) (0 : Int64) S58) fun _ S93 => gk x0 6 <| cl (F_X8_sets x0 x1 (14 : Int32) (0 : Int64) S93) fun _ S101 => gk x0 6 <| cl (F_X8_at x0 x1 (13 : Int32) S101) fun r112 S112 => gk x0 6 <| cl (F_X8_sets x0 x1 (13 : Int32) (r112 + x2) S112) fun _ S117 => some (x2, S117)) else (gk x0 6 <| cl (F_X8_at x0 x1 (((15 : Int32) + ((5 : Int32) * x4)) + (2 : Int32)) S58) fun r77 S77 => bd ((x2 + r77)) fun v81 => rec51 x0 x1 v81 (x4 + 1) S77)
set_option maxRecDepth 20000 in
set_option maxHeartbeats 4000000 in
def L_X8_writeOff_51  : Nat → Nat → Int32 → Int64 → Int32 → St → Option (Int64 × St)
  | 0, _, _, _, _, _ => none
  | n + 1, x0, x1, x2, x4, S => B_X8_writeOff_51  (L_X8_writeOff_51  n) x0 x1 x2 x4 S
set_option maxRecDepth 20000 in
set_option maxHeartbeats 4000000 in
def J_X8_writeOff_40  (x0 : Nat) (x1 : Int32)  (S : St) : Option (Int64 × St) :=
  gk x0 6 <| cl (F_X8_at x0 x1 (8 : Int32) S) fun r44 S44 => L_X8_writeOff_51  6000 x0 x1 r44 (0 : Int32) S44
set_option maxRecDepth 20000 in
set_option maxHeartbeats 4000000 in
def F_X8_writeOff (c : Nat) (a1 : Int32) (S : St) : Option (Int64 × St) :=
  gk c 6 <| cl (F_X8_isLoan c a1 S) fun r2 S2 => if ¬ r2 = 0 then (gk c 6 <| cl (F_X8_at c a1 (8 : Int32) S2) fun r16 S16 => if ¬ r16 = (0 : Int64) then (J_X8_writeOff_40  c a1 S16) else (gk c 6 <| cl (F_X8_at c a1 (14 : Int32) S16) fun r28 S28 => if ¬ r28 = (0 : Int64) then (J_X8_writeOff_40  c a1 S28) else (some ((-5 : Int64), S28)))) else (some ((-1 : Int64), S2))
set_option maxRecDepth 20000 in
set_option maxHeartbeats 4000000 in
def J_X8_rule_32    (S : St) : Option (Int32 × St) :=
  some ((-1 : Int32), S)
set_option maxRecDepth 20000 in
set_option maxHeartbeats 4000000 in
def J_X8_rule_26  (x0 : Nat) (x1 : Int32) (x2 : Int32) (t0 : Int64) (t1 : Int64) (t2 : Int64) (S : St) : Option (Int32 × St) :=
  cl (F_X8_in t2 t1 t0 S) fun r26 S26 => if ¬ r26 = 0 then (gR 6 0 x0 fun v35 => aJ v35 ((2522 : Int32) + x1) S26 fun v43 => bd ((Int64.toInt32 v43)) fun v45 => gR 6 0 x0 fun v47 => sJ v47 ((2522 : Int32) + x1) (Int32.toInt64 x2) S26 fun S57 => some (v45, S57)) else (J_X8_rule_32  S26)
set_option maxRecDepth 20000 in
set_option maxHeartbeats 4000000 in
def F_X8_rule (c : Nat) (a1 : Int32) (a2 : Int32) (S : St) : Option (Int32 × St) :=
  cl (F_X8_in (Int32.toInt64 a1) (0 : Int64) (1 : Int64) S) fun r4 S4 => if r4 = 0 then (J_X8_rule_32  S4) else (if ¬ a1 = 0 then (J_X8_rule_26  c a1 a2 (10000 : Int64) (0 : Int64) (Int32.toInt64 a2) S4) else (J_X8_rule_26  c a1 a2 (90 : Int64) (0 : Int64) (Int32.toInt64 a2) S4))
set_option maxRecDepth 20000 in
set_option maxHeartbeats 4000000 in
def J_X8_of_20    (S : St) : Option (Int32 × St) :=
  some ((-1 : Int32), S)
set_option maxRecDepth 20000 in
set_option maxHeartbeats 4000000 in
def J_X8_of_171   (t0 : Int32) (S : St) : Option (Int32 × St) :=
  some (t0, S)
set_option maxRecDepth 20000 in
set_option maxHeartbeats 4000000 in
def J_X8_of_199   (t0 : Int32) (S : St) : Option (Int32 × St) :=
  some (t0, S)
set_option maxRecDepth 20000 in
set_option maxHeartbeats 4000000 in
def F_X8_of (c : Nat) (a1 : Int32) (a2 : Int32) (S : St) : Option (Int32 × St) :=
  gk c 6 <| cl (F_X8_isLoan c a1 S) fun r2 S2 => if r2 = 0 then (J_X8_of_20  S2) else (cl (F_X8_in (Int32.toInt64 a2) (0 : Int64) (9 : Int64) S2) fun r14 S14 => if ¬ r14 = 0 then (gk c 6 <| cl (F_X8_at c a1 (14 : Int32) S14) fun r26 S26 => bd ((Int64.toInt32 r26)) fun v30 => gk c 6 <| cl (F_X8_at c a1 (7 : Int32) S26) fun r35 S35 => bd ((Int64.toInt32 r35)) fun v39 => sw a2 (gk c 6 <| cl (F_X8_at c a1 (4 : Int32) S35) fun r178 S178 => if ¬ (Int32.toInt64 v39) = r178 then (gk c 6 <| cl (F_X8_endOf c a1 (v39 + (1 : Int32)) S178) fun r196 S196 => J_X8_of_199  r196 S196) else (J_X8_of_199  (-2 : Int32) S178)) [(0, gk c 6 <| cl (F_X8_at c a1 (1 : Int32) S35) fun r95 S95 => some ((Int64.toInt32 r95), S95)), (1, gk c 6 <| cl (F_X8_at c a1 (2 : Int32) S35) fun r103 S103 => some ((Int64.toInt32 r103), S103)), (2, gk c 6 <| cl (F_X8_at c a1 (3 : Int32) S35) fun r111 S111 => some ((Int64.toInt32 r111), S111)), (3, gk c 6 <| cl (F_X8_at c a1 (4 : Int32) S35) fun r119 S119 => some ((Int64.toInt32 r119), S119)), (4, gk c 6 <| cl (F_X8_at c a1 (5 : Int32) S35) fun r127 S127 => some ((Int64.toInt32 r127), S127)), (5, gk c 6 <| cl (F_X8_at c a1 (6 : Int32) S35) fun r136 S136 => some ((Int64.toInt32 r136), S136)), (6, some (v39, S35)), (7, some (v30, S35)), (8, if ¬ v30 = 0 then (gR 6 0 c fun v155 => aJ v155 (2521 : Int32) S35 fun v161 => gk c 6 <| cl (F_X8_at c a1 (15 : Int32) S35) fun r166 S166 => J_X8_of_171  (Int64.toInt32 (v161 - r166)) S166) else (J_X8_of_171  (0 : Int32) S35))]) else (J_X8_of_20  S14))
set_option maxRecDepth 20000 in
set_option maxHeartbeats 4000000 in
def B_X8_owed_5 (rec5 : (Nat → Int32 → Int64 → Int32 → St → Option (Int64 × St))) (x0 : Nat) (x1 : Int32) (x2 : Int64) (x4 : Int32)  (S : St) : Option (Int64 × St) :=
  gk x0 6 <| cl (F_X8_at x0 x1 (14 : Int32) S) fun r12 S12 => if r12 ≤ (Int32.toInt64 x4) then (some (x2, S12)) else (gk x0 6 <| cl (F_X8_asks x0 x1 x4 S12) fun r24 S24 => bd ((x2 + r24)) fun v28 => rec5 x0 x1 v28 (x4 + 1) S24)
set_option maxRecDepth 20000 in
set_option maxHeartbeats 4000000 in
def L_X8_owed_5  : Nat → Nat → Int32 → Int64 → Int32 → St → Option (Int64 × St)
  | 0, _, _, _, _, _ => none
  | n + 1, x0, x1, x2, x4, S => B_X8_owed_5  (L_X8_owed_5  n) x0 x1 x2 x4 S
set_option maxRecDepth 20000 in
set_option maxHeartbeats 4000000 in
def F_X8_owed (c : Nat) (a1 : Int32) (S : St) : Option (Int64 × St) :=
  L_X8_owed_5  6000 c a1 (0 : Int64) (0 : Int32) S
set_option maxRecDepth 20000 in
set_option maxHeartbeats 4000000 in
def B_X8_comes_33 (rec33 : (Nat → Int32 → Int32 → Int64 → Int32 → St → Option (Unit × St))) (x0 : Nat) (x1 : Int32) (x2 : Int32) (x3 : Int64) (x5 : Int32)  (S : St) : Option (Unit × St) :=
  gI 6 9 x0 S fun v36 => if v36 ≤ x5 then (some ((), S)) else (gR 6 5 x0 fun v43 => gk x0 6 <| cl (F_X8_endOf x0 x1 ((x2 + x5) + (1 : Int32)) S) fun r56 S56 => sI v43 x5 r56 S56 fun S59 => gR 6 6 x0 fun v61 => gk x0 6 <| cl (F_X8_periodInterest x0 x1 x3 (x2 + x5) S59) fun r73 S73 => sJ v61 x5 r73 S73 fun S76 => gR 6 7 x0 fun v78 => gR 6 6 x0 fun v87 => aJ v87 x5 S76 fun v92 => gk x0 6 <| cl (F_X8_principalOf x0 x1 x3 v92 (x2 + x5) S76) fun r97 S97 => sJ v78 x5 r97 S97 fun S100 => gR 6 7 x0 fun v103 => aJ v103 x5 S100 fun v108 => bd ((x3 - v108)) fun v110 => gR 6 8 x0 fun v112 => sJ v112 x5 v110 S100 fun S118 => rec33 x0 x1 x2 v110 (x5 + 1) S118)
set_option maxRecDepth 20000 in
set_option maxHeartbeats 4000000 in
def L_X8_comes_33  : Nat → Nat → Int32 → Int32 → Int64 → Int32 → St → Option (Unit × St)
  | 0, _, _, _, _, _, _ => none
  | n + 1, x0, x1, x2, x3, x5, S => B_X8_comes_33  (L_X8_comes_33  n) x0 x1 x2 x3 x5 S
set_option maxRecDepth 20000 in
set_option maxHeartbeats 4000000 in
def F_X8_comes (c : Nat) (a1 : Int32) (S : St) : Option (Unit × St) :=
  gk c 6 <| cl (F_X8_at c a1 (7 : Int32) S) fun r4 S4 => bd ((Int64.toInt32 r4)) fun v8 => gk c 6 <| cl (F_X8_at c a1 (4 : Int32) S4) fun r13 S13 => pI 6 9 c ((Int64.toInt32 r13) - v8) S13 fun S19 => gk c 6 <| cl (F_X8_at c a1 (8 : Int32) S19) fun r26 S26 => L_X8_comes_33  6000 c a1 v8 r26 (0 : Int32) S26
set_option maxRecDepth 20000 in
set_option maxHeartbeats 4000000 in
def J_X8_sum_20    (S : St) : Option (Int64 × St) :=
  some ((-1 : Int64), S)
set_option maxRecDepth 20000 in
set_option maxHeartbeats 4000000 in
def J_X8_sum_101  (x0 : Nat) (x1 : Int32) (x2 : Int32)  (S : St) : Option (Int64 × St) :=
  gk x0 6 <| cl (F_X8_at x0 x1 (((10 : Int32) + x2) - (4 : Int32)) S) fun r109 S109 => some (r109, S109)
set_option maxRecDepth 20000 in
set_option maxHeartbeats 4000000 in
def B_X8_sum_131 (rec131 : (Nat → Int64 → Int32 → St → Option (Int64 × St))) (x0 : Nat) (x3 : Int64) (x5 : Int32)  (S : St) : Option (Int64 × St) :=
  gI 6 9 x0 S fun v134 => if v134 ≤ x5 then (some (x3, S)) else (gR 6 6 x0 fun v142 => aJ v142 x5 S fun v147 => bd ((x3 + v147)) fun v149 => rec131 x0 v149 (x5 + 1) S)
set_option maxRecDepth 20000 in
set_option maxHeartbeats 4000000 in
def L_X8_sum_131  : Nat → Nat → Int64 → Int32 → St → Option (Int64 × St)
  | 0, _, _, _, _ => none
  | n + 1, x0, x3, x5, S => B_X8_sum_131  (L_X8_sum_131  n) x0 x3 x5 S
set_option maxRecDepth 20000 in
set_option maxHeartbeats 4000000 in
def F_X8_sum (c : Nat) (a1 : Int32) (a2 : Int32) (S : St) : Option (Int64 × St) :=
  gk c 6 <| cl (F_X8_isLoan c a1 S) fun r2 S2 => if r2 = 0 then (J_X8_sum_20  S2) else (cl (F_X8_in (Int32.toInt64 a2) (0 : Int64) (8 : Int64) S2) fun r14 S14 => if ¬ r14 = 0 then (sw a2 (gk c 6 <| cl (F_X8_comes c a1 S14) fun _ S123 => L_X8_sum_131  6000 c (0 : Int64) (0 : Int32) S123) [(0, gk c 6 <| cl (F_X8_at c a1 (0 : Int32) S14) fun r75 S75 => some (r75, S75)), (1, gk c 6 <| cl (F_X8_at c a1 (8 : Int32) S14) fun r83 S83 => some (r83, S83)), (2, gk c 6 <| cl (F_X8_at c a1 (9 : Int32) S14) fun r91 S91 => some (r91, S91)), (3, gk c 6 <| cl (F_X8_owed c a1 S14) fun r97 S97 => some (r97, S97)), (4, J_X8_sum_101  c a1 a2 S14), (5, J_X8_sum_101  c a1 a2 S14), (6, J_X8_sum_101  c a1 a2 S14), (7, gk c 6 <| cl (F_X8_at c a1 (13 : Int32) S14) fun r117 S117 => some (r117, S117))]) else (J_X8_sum_20  S14))
set_option maxRecDepth 20000 in
set_option maxHeartbeats 4000000 in
def J_X8_bill_24    (S : St) : Option (Int64 × St) :=
  some ((-1 : Int64), S)
set_option maxRecDepth 20000 in
set_option maxHeartbeats 4000000 in
def J_X8_bill_60   (t0 : Int64) (S : St) : Option (Int64 × St) :=
  some (t0, S)
set_option maxRecDepth 20000 in
set_option maxHeartbeats 4000000 in
def F_X8_bill (c : Nat) (a1 : Int32) (a2 : Int32) (a3 : Int32) (S : St) : Option (Int64 × St) :=
  gk c 6 <| cl (F_X8_isLoan c a1 S) fun r2 S2 => if r2 = 0 then (J_X8_bill_24  S2) else (if a2 < 0 then (J_X8_bill_24  S2) else (cl (F_X8_in (Int32.toInt64 a3) (0 : Int64) (3 : Int64) S2) fun r18 S18 => if ¬ r18 = 0 then (gk c 6 <| cl (F_X8_at c a1 (14 : Int32) S18) fun r34 S34 => if r34 ≤ (Int32.toInt64 a2) then (J_X8_bill_60  (-2 : Int64) S34) else (gk c 6 <| cl (F_X8_at c a1 (((15 : Int32) + ((5 : Int32) * a2)) + a3) S34) fun r51 S51 => J_X8_bill_60  r51 S51)) else (J_X8_bill_24  S18)))
set_option maxRecDepth 20000 in
set_option maxHeartbeats 4000000 in
def F_X8_flow (c : Nat) (a1 : Int32) (S : St) : Option (Int64 × St) :=
  gR 6 6 c fun v1 => aJ v1 a1 S fun v5 => gR 6 7 c fun v7 => aJ v7 a1 S fun v11 => some ((v5 + v11), S)
set_option maxRecDepth 20000 in
set_option maxHeartbeats 4000000 in
def J_X8_nth_32 (rec4 : (Nat → Int32 → Int32 → Int32 → St → Option (Int32 × St))) (x0 : Nat) (x1 : Int32) (x2 : Int32) (x3 : Int32)  (S : St) : Option (Int32 × St) :=
  rec4 x0 x1 x2 (x3 + 1) S
set_option maxRecDepth 20000 in
set_option maxHeartbeats 4000000 in
def B_X8_nth_4 (rec4 : (Nat → Int32 → Int32 → Int32 → St → Option (Int32 × St))) (x0 : Nat) (x1 : Int32) (x2 : Int32) (x3 : Int32)  (S : St) : Option (Int32 × St) :=
  gI 6 9 x0 S fun v6 => if v6 ≤ x3 then (some ((-2 : Int32), S)) else (gk x0 6 <| cl (F_X8_flow x0 x3 S) fun r14 S14 => if r14 ≤ (0 : Int64) then (J_X8_nth_32 rec4 x0 x1 x2 x3 S14) else (if ¬ x2 = x1 then (J_X8_nth_32 rec4 x0 x1 (x2 + 1) x3 S14) else (some (x3, S14))))
set_option maxRecDepth 20000 in
set_option maxHeartbeats 4000000 in
def L_X8_nth_4  : Nat → Nat → Int32 → Int32 → Int32 → St → Option (Int32 × St)
  | 0, _, _, _, _, _ => none
  | n + 1, x0, x1, x2, x3, S => B_X8_nth_4  (L_X8_nth_4  n) x0 x1 x2 x3 S
set_option maxRecDepth 20000 in
set_option maxHeartbeats 4000000 in
def F_X8_nth (c : Nat) (a1 : Int32) (S : St) : Option (Int32 × St) :=
  L_X8_nth_4  6000 c a1 (0 : Int32) (0 : Int32) S
set_option maxRecDepth 20000 in
set_option maxHeartbeats 4000000 in
def J_X8_toCome_24    (S : St) : Option (Int64 × St) :=
  some ((-1 : Int64), S)
set_option maxRecDepth 20000 in
set_option maxHeartbeats 4000000 in
def J_X8_toCome_101   (t0 : Int64) (S : St) : Option (Int64 × St) :=
  some (t0, S)
set_option maxRecDepth 20000 in
set_option maxHeartbeats 4000000 in
def F_X8_toCome (c : Nat) (a1 : Int32) (a2 : Int32) (a3 : Int32) (S : St) : Option (Int64 × St) :=
  gk c 6 <| cl (F_X8_isLoan c a1 S) fun r2 S2 => if r2 = 0 then (J_X8_toCome_24  S2) else (if a2 < 0 then (J_X8_toCome_24  S2) else (cl (F_X8_in (Int32.toInt64 a3) (0 : Int64) (3 : Int64) S2) fun r18 S18 => if ¬ r18 = 0 then (gk c 6 <| cl (F_X8_comes c a1 S18) fun _ S30 => gk c 6 <| cl (F_X8_nth c a2 S30) fun r35 S35 => if 0 ≤ r35 then (if ¬ a3 = 0 then (if ¬ a3 = (1 : Int32) then (if ¬ a3 = (2 : Int32) then (gR 6 8 c fun v95 => aJ v95 r35 S35 fun v100 => J_X8_toCome_101  v100 S35) else (gR 6 7 c fun v85 => aJ v85 r35 S35 fun v90 => J_X8_toCome_101  v90 S35)) else (gR 6 6 c fun v70 => aJ v70 r35 S35 fun v75 => J_X8_toCome_101  v75 S35)) else (gR 6 5 c fun v54 => aI v54 r35 S35 fun v59 => J_X8_toCome_101  (Int32.toInt64 v59) S35)) else (some ((-2 : Int64), S35))) else (J_X8_toCome_24  S18)))
set_option maxRecDepth 20000 in
set_option maxHeartbeats 4000000 in
def J_X8_coming_20    (S : St) : Option (Int64 × St) :=
  some ((-1 : Int64), S)
set_option maxRecDepth 20000 in
set_option maxHeartbeats 4000000 in
def J_X8_coming_100 (rec42 : (Nat → Int32 → Int32 → Int64 → Int64 → Int32 → St → Option (Int64 × St))) (x0 : Nat) (x2 : Int32) (x3 : Int32) (x4 : Int64) (x6 : Int64) (x8 : Int32)  (S : St) : Option (Int64 × St) :=
  rec42 x0 x2 x3 x4 x6 (x8 + 1) S
set_option maxRecDepth 20000 in
set_option maxHeartbeats 4000000 in
def J_X8_coming_98 (rec42 : (Nat → Int32 → Int32 → Int64 → Int64 → Int32 → St → Option (Int64 × St))) (x0 : Nat) (x2 : Int32) (x3 : Int32) (x4 : Int64) (x8 : Int32) (t0 : Int64) (S : St) : Option (Int64 × St) :=
  J_X8_coming_100 rec42 x0 x2 x3 x4 t0 x8 S
set_option maxRecDepth 20000 in
set_option maxHeartbeats 4000000 in
def J_X8_coming_127   (t0 : Int64) (S : St) : Option (Int64 × St) :=
  some (t0, S)
set_option maxRecDepth 20000 in
set_option maxHeartbeats 4000000 in
def B_X8_coming_42 (rec42 : (Nat → Int32 → Int32 → Int64 → Int64 → Int32 → St → Option (Int64 × St))) (x0 : Nat) (x2 : Int32) (x3 : Int32) (x4 : Int64) (x6 : Int64) (x8 : Int32)  (S : St) : Option (Int64 × St) :=
  gI 6 9 x0 S fun v45 => if v45 ≤ x8 then (if ¬ x2 = 0 then (if ¬ x2 = (1 : Int32) then (J_X8_coming_127  x6 S) else (J_X8_coming_127  x4 S)) else (J_X8_coming_127  (Int32.toInt64 x3) S)) else (gk x0 6 <| cl (F_X8_flow x0 x8 S) fun r54 S54 => if r54 ≤ (0 : Int64) then (J_X8_coming_100 rec42 x0 x2 x3 x4 x6 x8 S54) else (gR 6 5 x0 fun v66 => aI v66 x8 S54 fun v71 => bd ((Int32.toInt64 v71)) fun v73 => gk x0 6 <| cl (F_X8_flow x0 x8 S54) fun r78 S78 => if r78 ≤ x6 then (J_X8_coming_98 rec42 x0 x2 (x3 + 1) v73 x8 x6 S78) else (gk x0 6 <| cl (F_X8_flow x0 x8 S78) fun r90 S90 => J_X8_coming_98 rec42 x0 x2 (x3 + 1) v73 x8 r90 S90)))
set_option maxRecDepth 20000 in
set_option maxHeartbeats 4000000 in
def L_X8_coming_42  : Nat → Nat → Int32 → Int32 → Int64 → Int64 → Int32 → St → Option (Int64 × St)
  | 0, _, _, _, _, _, _, _ => none
  | n + 1, x0, x2, x3, x4, x6, x8, S => B_X8_coming_42  (L_X8_coming_42  n) x0 x2 x3 x4 x6 x8 S
set_option maxRecDepth 20000 in
set_option maxHeartbeats 4000000 in
def F_X8_coming (c : Nat) (a1 : Int32) (a2 : Int32) (S : St) : Option (Int64 × St) :=
  gk c 6 <| cl (F_X8_isLoan c a1 S) fun r2 S2 => if r2 = 0 then (J_X8_coming_20  S2) else (cl (F_X8_in (Int32.toInt64 a2) (0 : Int64) (2 : Int64) S2) fun r14 S14 => if ¬ r14 = 0 then (gk c 6 <| cl (F_X8_comes c a1 S14) fun _ S26 => L_X8_coming_42  6000 c a2 (0 : Int32) (-2 : Int64) (0 : Int64) (0 : Int32) S26) else (J_X8_coming_20  S14))
set_option maxRecDepth 20000 in
set_option maxHeartbeats 4000000 in
def J_X8_valueOf_43 (rec11 : (Nat → UInt64 → Int32 → UInt64 → Int32 → St → Option (UInt64 × St))) (x0 : Nat) (x1 : UInt64) (x3 : Int32) (x4 : UInt64) (x6 : Int32) (t0 : UInt64) (S : St) : Option (UInt64 × St) :=
  dq (FP.dadd x4 t0) fun v49 => dq (FP.dadd FP.dconst1 x1) fun v52 => dq (FP.ddiv v49 v52) fun v53 => rec11 x0 x1 x3 v53 (x6 + (-1)) S
set_option maxRecDepth 20000 in
set_option maxHeartbeats 4000000 in
def B_X8_valueOf_11 (rec11 : (Nat → UInt64 → Int32 → UInt64 → Int32 → St → Option (UInt64 × St))) (x0 : Nat) (x1 : UInt64) (x3 : Int32) (x4 : UInt64) (x6 : Int32)  (S : St) : Option (UInt64 × St) :=
  if x6 < 0 then (some (x4, S)) else (if x3 = 0 then (gk x0 6 <| cl (F_X8_flow x0 x6 S) fun r39 S39 => J_X8_valueOf_43 rec11 x0 x1 x3 x4 x6 (FP.l2d r39) S39) else (gk x0 6 <| cl (F_X8_flow x0 x6 S) fun r23 S23 => J_X8_valueOf_43 rec11 x0 x1 x3 x4 x6 (FP.l2d (r23 * (Int32.toInt64 (x6 + (1 : Int32))))) S23))
set_option maxRecDepth 20000 in
set_option maxHeartbeats 4000000 in
def L_X8_valueOf_11  : Nat → Nat → UInt64 → Int32 → UInt64 → Int32 → St → Option (UInt64 × St)
  | 0, _, _, _, _, _, _ => none
  | n + 1, x0, x1, x3, x4, x6, S => B_X8_valueOf_11  (L_X8_valueOf_11  n) x0 x1 x3 x4 x6 S
set_option maxRecDepth 20000 in
set_option maxHeartbeats 4000000 in
def F_X8_valueOf (c : Nat) (a1 : UInt64) (a2 : Int32) (S : St) : Option (UInt64 × St) :=
  gI 6 9 c S fun v4 => bd ((v4 - (1 : Int32))) fun v9 => L_X8_valueOf_11  6000 c a1 a2 FP.dconst0 v9 S
set_option maxRecDepth 20000 in
set_option maxHeartbeats 4000000 in
def J_X8_isRate_19   (t0 : Int32) (S : St) : Option (Int32 × St) :=
  zr t0 S
set_option maxRecDepth 20000 in
set_option maxHeartbeats 4000000 in
def J_X8_isRate_18    (S : St) : Option (Int32 × St) :=
  J_X8_isRate_19  (0 : Int32) S
set_option maxRecDepth 20000 in
set_option maxHeartbeats 4000000 in
def F_X8_isRate (a1 : UInt64) (S : St) : Option (Int32 × St) :=
  if dx a1 FP.dconst0 .l < 0 then (J_X8_isRate_18  S) else (if 0 < dx a1 (4621819117588971520 : UInt64) .g then (J_X8_isRate_18  S) else (J_X8_isRate_19  (1 : Int32) S))
set_option maxRecDepth 20000 in
set_option maxHeartbeats 4000000 in
def J_Jxe99ae_isNaN_b9ae7_11   (t0 : Int32) (S : St) : Option (Int32 × St) :=
  zr t0 S
set_option maxRecDepth 20000 in
set_option maxHeartbeats 4000000 in
def F_Jxe99ae_isNaN_b9ae7 (a1 : UInt64) (S : St) : Option (Int32 × St) :=
  if dx a1 a1 .l = 0 then (J_Jxe99ae_isNaN_b9ae7_11  (0 : Int32) S) else (J_Jxe99ae_isNaN_b9ae7_11  (1 : Int32) S)
set_option maxRecDepth 20000 in
set_option maxHeartbeats 4000000 in
def F_Jxe99ae_doubleToLongBits_ccdee (a1 : UInt64) (S : St) : Option (Int64 × St) :=
  cl (F_Jxe99ae_isNaN_b9ae7 a1 S) fun r1 S1 => if ¬ r1 = 0 then (some ((9221120237041090560 : Int64), S1)) else (some ((UInt64.toInt64 a1), S1))
set_option maxRecDepth 20000 in
set_option maxHeartbeats 4000000 in
def J_X8_value_22    (S : St) : Option (Int64 × St) :=
  some ((0 : Int64), S)
set_option maxRecDepth 20000 in
set_option maxHeartbeats 4000000 in
def F_X8_value (c : Nat) (a1 : Int32) (a2 : Int64) (S : St) : Option (Int64 × St) :=
  if vn_snl2d a2 = false then (bd ((Int64.toUInt64 a2)) fun v4 => gk c 6 <| cl (F_X8_isLoan c a1 S) fun r8 S8 => if r8 = 0 then (J_X8_value_22  S8) else (cl (F_X8_isRate v4 S8) fun r16 S16 => if ¬ r16 = 0 then (gk c 6 <| cl (F_X8_comes c a1 S16) fun _ S26 => gk c 6 <| cl (F_X8_valueOf c v4 (0 : Int32) S26) fun r33 S33 => cl (F_Jxe99ae_doubleToLongBits_ccdee r33 S33) fun r36 S36 => some (r36, S36)) else (J_X8_value_22  S16))) else none
set_option maxRecDepth 20000 in
set_option maxHeartbeats 4000000 in
def J_X8_yields_48 (rec8 : (Nat → Int64 → UInt64 → UInt64 → Int32 → St → Option (UInt64 × St))) (x0 : Nat) (x1 : Int64) (x3 : UInt64) (x5 : UInt64) (x7 : Int32)  (S : St) : Option (UInt64 × St) :=
  rec8 x0 x1 x3 x5 (x7 + 1) S
set_option maxRecDepth 20000 in
set_option maxHeartbeats 4000000 in
def B_X8_yields_8 (rec8 : (Nat → Int64 → UInt64 → UInt64 → Int32 → St → Option (UInt64 × St))) (x0 : Nat) (x1 : Int64) (x3 : UInt64) (x5 : UInt64) (x7 : Int32)  (S : St) : Option (UInt64 × St) :=
  if (50 : Int32) ≤ x7 then (some (x3, S)) else (dq (FP.dadd x3 x5) fun v18 => dq (FP.ddiv v18 (4611686018427387904 : UInt64)) fun v22 => gk x0 6 <| cl (F_X8_valueOf x0 v22 (0 : Int32) S) fun r29 S29 => if dx r29 (FP.l2d x1) .l ≤ 0 then (J_X8_yields_48 rec8 x0 x1 x3 v22 x7 S29) else (J_X8_yields_48 rec8 x0 x1 v22 x5 x7 S29))
set_option maxRecDepth 20000 in
set_option maxHeartbeats 4000000 in
def L_X8_yields_8  : Nat → Nat → Int64 → UInt64 → UInt64 → Int32 → St → Option (UInt64 × St)
  | 0, _, _, _, _, _, _ => none
  | n + 1, x0, x1, x3, x5, x7, S => B_X8_yields_8  (L_X8_yields_8  n) x0 x1 x3 x5 x7 S
set_option maxRecDepth 20000 in
set_option maxHeartbeats 4000000 in
def F_X8_yields (c : Nat) (a1 : Int64) (S : St) : Option (UInt64 × St) :=
  L_X8_yields_8  6000 c a1 FP.dconst0 FP.dconst1 (0 : Int32) S
set_option maxRecDepth 20000 in
set_option maxHeartbeats 4000000 in
def J_X8_yieldOf_14    (S : St) : Option (Int64 × St) :=
  some ((-1 : Int64), S)
set_option maxRecDepth 20000 in
set_option maxHeartbeats 4000000 in
def F_X8_yieldOf (c : Nat) (a1 : Int32) (a2 : Int64) (S : St) : Option (Int64 × St) :=
  gk c 6 <| cl (F_X8_isLoan c a1 S) fun r2 S2 => if r2 = 0 then (J_X8_yieldOf_14  S2) else (if (1 : Int64) ≤ a2 then (gk c 6 <| cl (F_X8_comes c a1 S2) fun _ S20 => gk c 6 <| cl (F_X8_yields c a2 S20) fun r25 S25 => cl (F_Jxe99ae_doubleToLongBits_ccdee r25 S25) fun r28 S28 => some (r28, S28)) else (J_X8_yieldOf_14  S2))
set_option maxRecDepth 20000 in
set_option maxHeartbeats 4000000 in
def J_Jxf58ca_isNaN_12338_11   (t0 : Int32) (S : St) : Option (Int32 × St) :=
  zr t0 S
set_option maxRecDepth 20000 in
set_option maxHeartbeats 4000000 in
def F_Jxf58ca_isNaN_12338 (a1 : UInt32) (S : St) : Option (Int32 × St) :=
  if fx a1 a1 .l = 0 then (J_Jxf58ca_isNaN_12338_11  (0 : Int32) S) else (J_Jxf58ca_isNaN_12338_11  (1 : Int32) S)
set_option maxRecDepth 20000 in
set_option maxHeartbeats 4000000 in
def F_Jxf58ca_floatToIntBits_5c35a (a1 : UInt32) (S : St) : Option (Int32 × St) :=
  cl (F_Jxf58ca_isNaN_12338 a1 S) fun r1 S1 => if ¬ r1 = 0 then (some ((2143289344 : Int32), S1)) else (some ((UInt32.toInt32 a1), S1))
set_option maxRecDepth 20000 in
set_option maxHeartbeats 4000000 in
def J_X8_near_14    (S : St) : Option (Int32 × St) :=
  some ((-1 : Int32), S)
set_option maxRecDepth 20000 in
set_option maxHeartbeats 4000000 in
def F_X8_near (c : Nat) (a1 : Int32) (a2 : Int64) (S : St) : Option (Int32 × St) :=
  gk c 6 <| cl (F_X8_isLoan c a1 S) fun r2 S2 => if r2 = 0 then (J_X8_near_14  S2) else (if (1 : Int64) ≤ a2 then (gk c 6 <| cl (F_X8_comes c a1 S2) fun _ S18 => gk c 6 <| cl (F_X8_yields c a2 S18) fun r23 S23 => fq (FP.d2f r23) fun v26 => cl (F_Jxf58ca_floatToIntBits_5c35a v26 S23) fun r27 S27 => some (r27, S27)) else (J_X8_near_14  S2))
set_option maxRecDepth 20000 in
set_option maxHeartbeats 4000000 in
def J_X8_duration_22    (S : St) : Option (Int64 × St) :=
  some ((0 : Int64), S)
set_option maxRecDepth 20000 in
set_option maxHeartbeats 4000000 in
def J_X8_duration_59   (t0 : UInt64) (S : St) : Option (Int64 × St) :=
  cl (F_Jxe99ae_doubleToLongBits_ccdee t0 S) fun r59 S59 => some (r59, S59)
set_option maxRecDepth 20000 in
set_option maxHeartbeats 4000000 in
def F_X8_duration (c : Nat) (a1 : Int32) (a2 : Int64) (S : St) : Option (Int64 × St) :=
  if vn_snl2d a2 = false then (bd ((Int64.toUInt64 a2)) fun v4 => gk c 6 <| cl (F_X8_isLoan c a1 S) fun r8 S8 => if r8 = 0 then (J_X8_duration_22  S8) else (cl (F_X8_isRate v4 S8) fun r16 S16 => if ¬ r16 = 0 then (gk c 6 <| cl (F_X8_comes c a1 S16) fun _ S26 => gk c 6 <| cl (F_X8_valueOf c v4 (0 : Int32) S26) fun r33 S33 => if ¬ dx r33 FP.dconst0 .l = 0 then (gk c 6 <| cl (F_X8_valueOf c v4 (1 : Int32) S33) fun r53 S53 => dq (FP.ddiv r53 r33) fun v58 => J_X8_duration_59  v58 S53) else (J_X8_duration_59  FP.dconst0 S33)) else (J_X8_duration_22  S16))) else none
set_option maxRecDepth 20000 in
set_option maxHeartbeats 4000000 in
def J_X8_behind_66 (rec10 : (Nat → Int32 → Int32 → Int32 → St → Option (Int32 × St))) (x0 : Nat) (x1 : Int32) (x3 : Int32) (t0 : Int32) (t1 : Int32) (S : St) : Option (Int32 × St) :=
  bd ((t1 ||| t0)) fun v67 => rec10 x0 x1 v67 (x3 + 1) S
set_option maxRecDepth 20000 in
set_option maxHeartbeats 4000000 in
def J_X8_behind_65 (rec10 : (Nat → Int32 → Int32 → Int32 → St → Option (Int32 × St))) (x0 : Nat) (x1 : Int32) (x3 : Int32) (t0 : Int32) (S : St) : Option (Int32 × St) :=
  J_X8_behind_66 rec10 x0 x1 x3 (0 : Int32) t0 S
set_option maxRecDepth 20000 in
set_option maxHeartbeats 4000000 in
def B_X8_behind_10 (rec10 : (Nat → Int32 → Int32 → Int32 → St → Option (Int32 × St))) (x0 : Nat) (x1 : Int32) (x2 : Int32) (x3 : Int32)  (S : St) : Option (Int32 × St) :=
  gR 6 0 x0 fun v13 => aJ v13 (2520 : Int32) S fun v19 => if v19 ≤ (Int32.toInt64 x3) then (some (x2, S)) else (gk x0 6 <| cl (F_X8_at x0 x3 (14 : Int32) S) fun r29 S29 => if r29 ≤ (0 : Int64) then (J_X8_behind_65 rec10 x0 x1 x3 x2 S29) else (gR 6 0 x0 fun v38 => aJ v38 (2521 : Int32) S29 fun v44 => gk x0 6 <| cl (F_X8_at x0 x3 (15 : Int32) S29) fun r49 S49 => if (v44 - r49) ≤ (Int32.toInt64 x1) then (J_X8_behind_65 rec10 x0 x1 x3 x2 S49) else (J_X8_behind_66 rec10 x0 x1 x3 ((1 : Int32) <<< (x3 &&& 31)) x2 S49)))
set_option maxRecDepth 20000 in
set_option maxHeartbeats 4000000 in
def L_X8_behind_10  : Nat → Nat → Int32 → Int32 → Int32 → St → Option (Int32 × St)
  | 0, _, _, _, _, _ => none
  | n + 1, x0, x1, x2, x3, S => B_X8_behind_10  (L_X8_behind_10  n) x0 x1 x2 x3 S
set_option maxRecDepth 20000 in
set_option maxHeartbeats 4000000 in
def F_X8_behind (c : Nat) (a1 : Int32) (S : St) : Option (Int32 × St) :=
  if 0 ≤ a1 then (L_X8_behind_10  6000 c a1 (0 : Int32) (0 : Int32) S) else (some ((-1 : Int32), S))
set_option maxRecDepth 20000 in
set_option maxHeartbeats 4000000 in
def J_X8_settles_51   (t0 : Int32) (S : St) : Option (Int32 × St) :=
  some (t0, S)
set_option maxRecDepth 20000 in
set_option maxHeartbeats 4000000 in
def F_X8_settles (c : Nat) (a1 : Int32) (S : St) : Option (Int32 × St) :=
  gk c 6 <| cl (F_X8_isLoan c a1 S) fun r2 S2 => if ¬ r2 = 0 then (gk c 6 <| cl (F_X8_at c a1 (4 : Int32) S2) fun r13 S13 => bd ((Int64.toInt32 r13)) fun v17 => gk c 6 <| cl (F_X8_at c a1 (7 : Int32) S13) fun r22 S22 => if ¬ r22 = (Int32.toInt64 v17) then (gk c 6 <| cl (F_X8_endOf c a1 v17 S22) fun r38 S38 => gR 6 0 c fun v42 => aJ v42 (2521 : Int32) S38 fun v48 => J_X8_settles_51  (r38 - (Int64.toInt32 v48)) S38) else (J_X8_settles_51  (0 : Int32) S22)) else (some ((-1 : Int32), S2))
set_option maxRecDepth 20000 in
set_option maxHeartbeats 4000000 in
def J_X8_would_22    (S : St) : Option (Int64 × St) :=
  some ((-1 : Int64), S)
set_option maxRecDepth 20000 in
set_option maxHeartbeats 4000000 in
def F_X8_would (c : Nat) (a1 : Int32) (a2 : Int64) (a3 : Int32) (S : St) : Option (Int64 × St) :=
  gk c 6 <| cl (F_X8_isPaid c a1 a2 S) fun r3 S3 => if r3 = 0 then (J_X8_would_22  S3) else (cl (F_X8_in (Int32.toInt64 a3) (0 : Int64) (5 : Int64) S3) fun r16 S16 => if ¬ r16 = 0 then (gR 6 0 c fun v27 => gR 6 1 c fun v31 => cl (F_X8_take v27 v31 S16) fun _ S34 => gk c 6 <| cl (F_X8_pays c a1 a2 S34) fun _ S40 => gR 6 1 c fun v44 => gR 6 0 c fun v48 => cl (F_X8_take v44 v48 S40) fun _ S51 => gR 6 10 c fun v55 => aJ v55 a3 S51 fun v60 => some (v60, S51)) else (J_X8_would_22  S16))
set_option maxRecDepth 20000 in
set_option maxHeartbeats 4000000 in
def J_X8_lastPrincipal_35 (rec9 : (Nat → Int32 → Int32 → St → Option (Int32 × St))) (x0 : Nat) (x3 : Int32) (t0 : Int32) (S : St) : Option (Int32 × St) :=
  rec9 x0 t0 (x3 + 1) S
set_option maxRecDepth 20000 in
set_option maxHeartbeats 4000000 in
def B_X8_lastPrincipal_9 (rec9 : (Nat → Int32 → Int32 → St → Option (Int32 × St))) (x0 : Nat) (x2 : Int32) (x3 : Int32)  (S : St) : Option (Int32 × St) :=
  gI 6 9 x0 S fun v11 => if v11 ≤ x3 then (some (x2, S)) else (gR 6 7 x0 fun v18 => aJ v18 x3 S fun v22 => if v22 ≤ (0 : Int64) then (J_X8_lastPrincipal_35 rec9 x0 x3 x2 S) else (J_X8_lastPrincipal_35 rec9 x0 x3 (x3 + (1 : Int32)) S))
set_option maxRecDepth 20000 in
set_option maxHeartbeats 4000000 in
def L_X8_lastPrincipal_9  : Nat → Nat → Int32 → Int32 → St → Option (Int32 × St)
  | 0, _, _, _, _ => none
  | n + 1, x0, x2, x3, S => B_X8_lastPrincipal_9  (L_X8_lastPrincipal_9  n) x0 x2 x3 S
set_option maxRecDepth 20000 in
set_option maxHeartbeats 4000000 in
def F_X8_lastPrincipal (c : Nat) (a1 : Int32) (S : St) : Option (Int32 × St) :=
  gk c 6 <| cl (F_X8_comes c a1 S) fun _ S2 => L_X8_lastPrincipal_9  6000 c (0 : Int32) (0 : Int32) S2
set_option maxRecDepth 20000 in
set_option maxHeartbeats 4000000 in
def J_X8_sooner_69   (t0 : Int32) (S : St) : Option (Int32 × St) :=
  some (t0, S)
set_option maxRecDepth 20000 in
set_option maxHeartbeats 4000000 in
def F_X8_sooner (c : Nat) (a1 : Int32) (a2 : Int64) (S : St) : Option (Int32 × St) :=
  gk c 6 <| cl (F_X8_isPaid c a1 a2 S) fun r3 S3 => if ¬ r3 = 0 then (gk c 6 <| cl (F_X8_lastPrincipal c a1 S3) fun r13 S13 => gR 6 0 c fun v19 => gR 6 1 c fun v23 => cl (F_X8_take v19 v23 S13) fun _ S26 => gk c 6 <| cl (F_X8_pays c a1 a2 S26) fun _ S32 => gk c 6 <| cl (F_X8_lastPrincipal c a1 S32) fun r37 S37 => gR 6 1 c fun v43 => gR 6 0 c fun v47 => cl (F_X8_take v43 v47 S37) fun _ S50 => if r13 ≤ r37 then (J_X8_sooner_69  (0 : Int32) S50) else (J_X8_sooner_69  (r13 - r37) S50)) else (some ((-1 : Int32), S3))
set_option maxRecDepth 20000 in
set_option maxHeartbeats 4000000 in
def F_X8_isHolder (c : Nat) (a1 : Int32) (S : St) : Option (Int32 × St) :=
  cl (F_X8_in (Int32.toInt64 a1) (0 : Int64) (5 : Int64) S) fun r6 S6 => zr r6 S6
set_option maxRecDepth 20000 in
set_option maxHeartbeats 4000000 in
def J_X8_judge_16    (S : St) : Option (Int32 × St) :=
  some ((-1 : Int32), S)
set_option maxRecDepth 20000 in
set_option maxHeartbeats 4000000 in
def J_X8_judge_44   (t0 : Int32) (S : St) : Option (Int32 × St) :=
  some (t0, S)
set_option maxRecDepth 20000 in
set_option maxHeartbeats 4000000 in
def J_X8_judge_93  (x3 : Int32)  (S : St) : Option (Int32 × St) :=
  some (x3, S)
set_option maxRecDepth 20000 in
set_option maxHeartbeats 4000000 in
def J_X8_judge_125   (t0 : Int32) (S : St) : Option (Int32 × St) :=
  some (t0, S)
set_option maxRecDepth 20000 in
set_option maxHeartbeats 4000000 in
def B_X8_judge_52 (rec52 : (Nat → Int32 → Int32 → St → Option (Int32 × St))) (x0 : Nat) (x1 : Int32) (x3 : Int32)  (S : St) : Option (Int32 × St) :=
  gR 6 17 x0 fun v54 => aI v54 x1 S fun v58 => if v58 ≤ x3 then (gR 6 17 x0 fun v103 => aI v103 x1 S fun v107 => gk x0 6 <| cl (F_X8_nth x0 v107 S) fun r108 S108 => if r108 < 0 then (J_X8_judge_125  (-2 : Int32) S108) else (gR 6 17 x0 fun v115 => aI v115 x1 S108 fun v119 => J_X8_judge_125  v119 S108)) else (gk x0 6 <| cl (F_X8_nth x0 x3 S) fun r64 S64 => if r64 < 0 then (J_X8_judge_93  x3 S64) else (gR 6 7 x0 fun v75 => aJ v75 r64 S64 fun v80 => gR 6 18 x0 fun v82 => aR 15 v82 x1 fun v86 => aJ v86 x3 S64 fun v88 => if v80 = v88 then (rec52 x0 x1 (x3 + 1) S64) else (J_X8_judge_93  x3 S64)))
set_option maxRecDepth 20000 in
set_option maxHeartbeats 4000000 in
def L_X8_judge_52  : Nat → Nat → Int32 → Int32 → St → Option (Int32 × St)
  | 0, _, _, _, _ => none
  | n + 1, x0, x1, x3, S => B_X8_judge_52  (L_X8_judge_52  n) x0 x1 x3 S
set_option maxRecDepth 20000 in
set_option maxHeartbeats 4000000 in
def F_X8_judge (c : Nat) (a1 : Int32) (a2 : Int32) (S : St) : Option (Int32 × St) :=
  gk c 6 <| cl (F_X8_isHolder c a1 S) fun r2 S2 => if r2 = 0 then (J_X8_judge_16  S2) else (gk c 6 <| cl (F_X8_isLoan c a2 S2) fun r10 S10 => if ¬ r10 = 0 then (gR 6 13 c fun v19 => aI v19 a1 S10 fun v23 => if v23 = (3 : Int32) then (gk c 6 <| cl (F_X8_comes c a2 S10) fun _ S47 => L_X8_judge_52  6000 c a1 (0 : Int32) S47) else (gR 6 13 c fun v29 => aI v29 a1 S10 fun v33 => if ¬ v33 = 0 then (J_X8_judge_44  (-12 : Int32) S10) else (J_X8_judge_44  (-11 : Int32) S10))) else (J_X8_judge_16  S10))
set_option maxRecDepth 20000 in
set_option maxHeartbeats 4000000 in
def F_X8_feed (c : Nat) (a1 : Int32) (S : St) : Option (Int32 × St) :=
  cl (F_X8_in (Int32.toInt64 a1) (0 : Int64) (255 : Int64) S) fun r6 S6 => if ¬ r6 = 0 then (gI 6 12 c S6 fun v15 => if ¬ v15 = (120 : Int32) then (gR 6 11 c fun v27 => gI 6 12 c S6 fun v32 => pI 6 12 c (v32 + (1 : Int32)) S6 fun S38 => sI v27 v32 a1 S38 fun S42 => gI 6 12 c S42 fun v44 => some (v44, S42)) else (some ((-3 : Int32), S6))) else (some ((-1 : Int32), S6))
set_option maxRecDepth 20000 in
set_option maxHeartbeats 4000000 in
def J_X8_sees_43   (t0 : Int32) (S : St) : Option (Int32 × St) :=
  zr t0 S
set_option maxRecDepth 20000 in
set_option maxHeartbeats 4000000 in
def J_X8_sees_42    (S : St) : Option (Int32 × St) :=
  J_X8_sees_43  (0 : Int32) S
set_option maxRecDepth 20000 in
set_option maxHeartbeats 4000000 in
def F_X8_sees (c : Nat) (a1 : Int32) (a2 : Int32) (S : St) : Option (Int32 × St) :=
  gI 6 20 c S fun v1 => if 0 ≤ v1 then (J_X8_sees_42  S) else (gI 6 19 c S fun v8 => gI 6 12 c S fun v12 => if v12 ≤ v8 then (J_X8_sees_42  S) else (gR 6 11 c fun v19 => gI 6 19 c S fun v23 => aI v19 v23 S fun v26 => cl (F_X8_in (Int32.toInt64 v26) (Int32.toInt64 a1) (Int32.toInt64 a2) S) fun r32 S32 => if r32 = 0 then (J_X8_sees_42  S32) else (J_X8_sees_43  (1 : Int32) S32)))
set_option maxRecDepth 20000 in
set_option maxHeartbeats 4000000 in
def J_X8_must_28  (x1 : Int32) (t0 : Int32) (t1 : Nat) (S : St) : Option (Int32 × St) :=
  pI 6 20 t1 t0 S fun S28 => some (x1, S28)
set_option maxRecDepth 20000 in
set_option maxHeartbeats 4000000 in
def F_X8_must (c : Nat) (a1 : Int32) (a2 : Int32) (S : St) : Option (Int32 × St) :=
  gk c 6 <| cl (F_X8_sees c a1 a2 S) fun r3 S3 => if ¬ r3 = 0 then (gR 6 11 c fun v34 => gI 6 19 c S3 fun v39 => pI 6 19 c (v39 + (1 : Int32)) S3 fun S45 => aI v34 v39 S45 fun v48 => some (v48, S45)) else (gI 6 20 c S3 fun v11 => if 0 ≤ v11 then (gI 6 20 c S3 fun v25 => J_X8_must_28  a1 v25 c S3) else (gI 6 19 c S3 fun v18 => J_X8_must_28  a1 v18 c S3))
set_option maxRecDepth 20000 in
set_option maxHeartbeats 4000000 in
def J_X8_number_71  (x1 : Int32)  (S : St) : Option (Int32 × St) :=
  some (x1, S)
set_option maxRecDepth 20000 in
set_option maxHeartbeats 4000000 in
def B_X8_number_23 (rec23 : (Nat → Int32 → Int32 → St → Option (Int32 × St))) (x0 : Nat) (x1 : Int32) (x2 : Int32)  (S : St) : Option (Int32 × St) :=
  if (8 : Int32) ≤ x2 then (J_X8_number_71  x1 S) else (gk x0 6 <| cl (F_X8_sees x0 (48 : Int32) (57 : Int32) S) fun r34 S34 => if r34 = 0 then (J_X8_number_71  x1 S34) else (gR 6 11 x0 fun v45 => gI 6 19 x0 S34 fun v50 => pI 6 19 x0 (v50 + (1 : Int32)) S34 fun S56 => aI v45 v50 S56 fun v59 => bd (((((10 : Int32) * x1) + v59) - (48 : Int32))) fun v64 => rec23 x0 v64 (x2 + 1) S56))
set_option maxRecDepth 20000 in
set_option maxHeartbeats 4000000 in
def L_X8_number_23  : Nat → Nat → Int32 → Int32 → St → Option (Int32 × St)
  | 0, _, _, _, _ => none
  | n + 1, x0, x1, x2, S => B_X8_number_23  (L_X8_number_23  n) x0 x1 x2 S
set_option maxRecDepth 20000 in
set_option maxHeartbeats 4000000 in
def F_X8_number (c : Nat) (S : St) : Option (Int32 × St) :=
  gk c 6 <| cl (F_X8_must c (32 : Int32) (32 : Int32) S) fun r5 S5 => gk c 6 <| cl (F_X8_must c (48 : Int32) (57 : Int32) S5) fun r14 S14 => bd ((r14 - (48 : Int32))) fun v20 => L_X8_number_23  6000 c v20 (0 : Int32) S14
set_option maxRecDepth 20000 in
set_option maxHeartbeats 4000000 in
def J_X8_partsOf_101    (S : St) : Option (Int32 × St) :=
  some ((1 : Int32), S)
set_option maxRecDepth 20000 in
set_option maxHeartbeats 4000000 in
def J_X8_partsOf_103    (S : St) : Option (Int32 × St) :=
  some ((-2 : Int32), S)
set_option maxRecDepth 20000 in
set_option maxHeartbeats 4000000 in
def J_X8_partsOf_99    (S : St) : Option (Int32 × St) :=
  some ((2 : Int32), S)
set_option maxRecDepth 20000 in
set_option maxHeartbeats 4000000 in
def F_X8_partsOf (a1 : Int32) (S : St) : Option (Int32 × St) :=
  sw a1 (J_X8_partsOf_103  S) [(100, J_X8_partsOf_101  S), (101, J_X8_partsOf_103  S), (102, J_X8_partsOf_101  S), (103, J_X8_partsOf_101  S), (104, J_X8_partsOf_103  S), (105, J_X8_partsOf_103  S), (106, J_X8_partsOf_103  S), (107, J_X8_partsOf_103  S), (108, some ((6 : Int32), S)), (109, J_X8_partsOf_103  S), (110, J_X8_partsOf_103  S), (111, J_X8_partsOf_103  S), (112, J_X8_partsOf_99  S), (113, J_X8_partsOf_103  S), (114, J_X8_partsOf_99  S), (115, J_X8_partsOf_103  S), (116, J_X8_partsOf_103  S), (117, J_X8_partsOf_103  S), (118, J_X8_partsOf_103  S), (119, J_X8_partsOf_101  S)]
set_option maxRecDepth 20000 in
set_option maxHeartbeats 4000000 in
def J_X8_line_60   (t0 : Int32) (t1 : Nat) (S : St) : Option (Int32 × St) :=
  pI 6 20 t1 t0 S fun S60 => some ((0 : Int32), S60)
set_option maxRecDepth 20000 in
set_option maxHeartbeats 4000000 in
def B_X8_line_77 (rec77 : (Nat → Int32 → Int32 → Int32 → St → Option (Int32 × St))) (x0 : Nat) (x1 : Int32) (x2 : Int32) (x3 : Int32)  (S : St) : Option (Int32 × St) :=
  if x2 ≤ x3 then (some (x1, S)) else (gR 6 21 x0 fun v83 => gk x0 6 <| cl (F_X8_number x0 S) fun r88 S88 => sI v83 x3 r88 S88 fun S91 => rec77 x0 x1 x2 (x3 + 1) S91)
set_option maxRecDepth 20000 in
set_option maxHeartbeats 4000000 in
def L_X8_line_77  : Nat → Nat → Int32 → Int32 → Int32 → St → Option (Int32 × St)
  | 0, _, _, _, _, _ => none
  | n + 1, x0, x1, x2, x3, S => B_X8_line_77  (L_X8_line_77  n) x0 x1 x2 x3 S
set_option maxRecDepth 20000 in
set_option maxHeartbeats 4000000 in
def J_X8_line_31  (x0 : Nat) (t0 : Int32) (S : St) : Option (Int32 × St) :=
  cl (F_X8_partsOf t0 S) fun r33 S33 => if 0 ≤ r33 then (gI 6 19 x0 S33 fun v67 => pI 6 19 x0 (v67 + (1 : Int32)) S33 fun S72 => L_X8_line_77  6000 x0 t0 r33 (0 : Int32) S72) else (gI 6 20 x0 S33 fun v43 => if 0 ≤ v43 then (gI 6 20 x0 S33 fun v57 => J_X8_line_60  v57 x0 S33) else (gI 6 19 x0 S33 fun v50 => J_X8_line_60  v50 x0 S33))
set_option maxRecDepth 20000 in
set_option maxHeartbeats 4000000 in
def J_X8_line_30  (x0 : Nat)  (S : St) : Option (Int32 × St) :=
  J_X8_line_31  x0 (0 : Int32) S
set_option maxRecDepth 20000 in
set_option maxHeartbeats 4000000 in
def F_X8_line (c : Nat) (S : St) : Option (Int32 × St) :=
  gI 6 20 c S fun v1 => if 0 ≤ v1 then (J_X8_line_30  c S) else (gI 6 19 c S fun v8 => gI 6 12 c S fun v12 => if v12 ≤ v8 then (J_X8_line_30  c S) else (gR 6 11 c fun v19 => gI 6 19 c S fun v23 => aI v19 v23 S fun v26 => J_X8_line_31  c v26 S))
set_option maxRecDepth 20000 in
set_option maxHeartbeats 4000000 in
def J_X8_isForm_62   (t0 : Int32) (S : St) : Option (Int32 × St) :=
  zr t0 S
set_option maxRecDepth 20000 in
set_option maxHeartbeats 4000000 in
def J_X8_isForm_50  (x0 : Nat)  (S : St) : Option (Int32 × St) :=
  gI 6 20 x0 S fun v51 => if 0 ≤ v51 then (J_X8_isForm_62  (0 : Int32) S) else (J_X8_isForm_62  (1 : Int32) S)
set_option maxRecDepth 20000 in
set_option maxHeartbeats 4000000 in
def B_X8_isForm_15 (rec15 : (Nat → St → Option (Int32 × St))) (x0 : Nat)  (S : St) : Option (Int32 × St) :=
  gI 6 20 x0 S fun v16 => if 0 ≤ v16 then (J_X8_isForm_50  x0 S) else (gI 6 19 x0 S fun v23 => gI 6 12 x0 S fun v27 => if v27 ≤ v23 then (J_X8_isForm_50  x0 S) else (gk x0 6 <| cl (F_X8_must x0 (59 : Int32) (59 : Int32) S) fun r38 S38 => gk x0 6 <| cl (F_X8_line x0 S38) fun r43 S43 => rec15 x0 S43))
set_option maxRecDepth 20000 in
set_option maxHeartbeats 4000000 in
def L_X8_isForm_15  : Nat → Nat → St → Option (Int32 × St)
  | 0, _, _ => none
  | n + 1, x0, S => B_X8_isForm_15  (L_X8_isForm_15  n) x0 S
set_option maxRecDepth 20000 in
set_option maxHeartbeats 4000000 in
def F_X8_isForm (c : Nat) (S : St) : Option (Int32 × St) :=
  pI 6 19 c (0 : Int32) S fun S2 => pI 6 20 c (-1 : Int32) S2 fun S7 => gk c 6 <| cl (F_X8_line c S7) fun r11 S11 => L_X8_isForm_15  6000 c S11
set_option maxRecDepth 20000 in
set_option maxHeartbeats 4000000 in
def J_X8_does_253  (x0 : Nat) (x2 : Int32)  (S : St) : Option (Int64 × St) :=
  gk x0 6 <| cl (F_X8_rule x0 (1 : Int32) x2 S) fun r256 S256 => some ((Int32.toInt64 r256), S256)
set_option maxRecDepth 20000 in
set_option maxHeartbeats 4000000 in
def J_X8_does_216   (t0 : Int64) (S : St) : Option (Int64 × St) :=
  some (t0, S)
set_option maxRecDepth 20000 in
set_option maxHeartbeats 4000000 in
def J_X8_does_162  (x0 : Nat) (x2 : Int32) (x3 : Int32) (t0 : Int32) (S : St) : Option (Int64 × St) :=
  if t0 = 0 then (J_X8_does_216  (-1 : Int64) S) else (gR 6 21 x0 fun v174 => aI v174 (2 : Int32) S fun v178 => gR 6 21 x0 fun v183 => aI v183 (3 : Int32) S fun v187 => gR 6 21 x0 fun v192 => aI v192 (5 : Int32) S fun v196 => gR 6 21 x0 fun v200 => aI v200 (4 : Int32) S fun v204 => gk x0 6 <| cl (F_X8_loan x0 (Int32.toInt64 x2) x3 v178 ((((1000 : Int32) * v187) + ((100 : Int32) * v196)) + v204) S) fun r206 S206 => J_X8_does_216  (Int32.toInt64 r206) S206)
set_option maxRecDepth 20000 in
set_option maxHeartbeats 4000000 in
def J_X8_does_161  (x0 : Nat) (x2 : Int32) (x3 : Int32)  (S : St) : Option (Int64 × St) :=
  J_X8_does_162  x0 x2 x3 (0 : Int32) S
set_option maxRecDepth 20000 in
set_option maxHeartbeats 4000000 in
def F_X8_does (c : Nat) (a1 : Int32) (S : St) : Option (Int64 × St) :=
  gR 6 21 c fun v1 => aI v1 (0 : Int32) S fun v5 => gR 6 21 c fun v8 => aI v8 (1 : Int32) S fun v12 => sw a1 (J_X8_does_253  c v5 S) [(100, gk c 6 <| cl (F_X8_days c v5 S) fun r234 S234 => some ((Int32.toInt64 r234), S234)), (101, J_X8_does_253  c v5 S), (102, J_X8_does_253  c v5 S), (103, gk c 6 <| cl (F_X8_rule c (0 : Int32) v5 S) fun r248 S248 => some ((Int32.toInt64 r248), S248)), (104, J_X8_does_253  c v5 S), (105, J_X8_does_253  c v5 S), (106, J_X8_does_253  c v5 S), (107, J_X8_does_253  c v5 S), (108, gR 6 21 c fun v109 => aI v109 (3 : Int32) S fun v113 => cl (F_X8_in (Int32.toInt64 v113) (0 : Int64) (2 : Int64) S) fun r119 S119 => if r119 = 0 then (J_X8_does_161  c v5 v12 S119) else (gR 6 21 c fun v126 => aI v126 (4 : Int32) S119 fun v130 => cl (F_X8_in (Int32.toInt64 v130) (1 : Int64) (60 : Int64) S119) fun r136 S136 => if r136 = 0 then (J_X8_does_161  c v5 v12 S136) else (gR 6 21 c fun v143 => aI v143 (5 : Int32) S136 fun v147 => cl (F_X8_in (Int32.toInt64 v147) (0 : Int64) (1 : Int64) S136) fun r151 S151 => if r151 = 0 then (J_X8_does_161  c v5 v12 S151) else (J_X8_does_162  c v5 v12 (1 : Int32) S151)))), (109, J_X8_does_253  c v5 S), (110, J_X8_does_253  c v5 S), (111, J_X8_does_253  c v5 S), (112, gk c 6 <| cl (F_X8_pay c v5 (Int32.toInt64 v12) S) fun r221 S221 => some (r221, S221)), (113, J_X8_does_253  c v5 S), (114, gk c 6 <| cl (F_X8_reset c v5 v12 S) fun r228 S228 => some (r228, S228)), (115, J_X8_does_253  c v5 S), (116, J_X8_does_253  c v5 S), (117, J_X8_does_253  c v5 S), (118, J_X8_does_253  c v5 S), (119, gk c 6 <| cl (F_X8_writeOff c v5 S) fun r241 S241 => some (r241, S241))]
set_option maxRecDepth 20000 in
set_option maxHeartbeats 4000000 in
def J_X8_script_92 (rec41 : (Nat → Int32 → Int32 → St → Option (Int32 × St))) (x0 : Nat) (x1 : Int32) (t0 : Int32) (S : St) : Option (Int32 × St) :=
  rec41 x0 (x1 + 1) t0 S
set_option maxRecDepth 20000 in
set_option maxHeartbeats 4000000 in
def J_X8_script_70 (rec41 : (Nat → Int32 → Int32 → St → Option (Int32 × St))) (x0 : Nat) (x1 : Int32) (t0 : Int32) (t1 : Int32) (t2 : Nat) (S : St) : Option (Int32 × St) :=
  pI 6 19 t2 (t1 + t0) S fun S71 => gk x0 6 <| cl (F_X8_line x0 S71) fun r76 S76 => gk x0 6 <| cl (F_X8_does x0 r76 S76) fun r79 S79 => if r79 < (0 : Int64) then (J_X8_script_92 rec41 x0 x1 (0 : Int32) S79) else (J_X8_script_92 rec41 x0 x1 (1 : Int32) S79)
set_option maxRecDepth 20000 in
set_option maxHeartbeats 4000000 in
def J_X8_script_99  (x0 : Nat) (x1 : Int32) (x2 : Int32)  (S : St) : Option (Int32 × St) :=
  pI 6 12 x0 (0 : Int32) S fun S101 => if ¬ x2 = 0 then (some (x1, S101)) else (gR 6 2 x0 fun v109 => gR 6 0 x0 fun v113 => cl (F_X8_take v109 v113 S101) fun _ S116 => some (((-2000 : Int32) - (x1 - (1 : Int32))), S116))
set_option maxRecDepth 20000 in
set_option maxHeartbeats 4000000 in
def B_X8_script_41 (rec41 : (Nat → Int32 → Int32 → St → Option (Int32 × St))) (x0 : Nat) (x1 : Int32) (x2 : Int32)  (S : St) : Option (Int32 × St) :=
  if x2 = 0 then (J_X8_script_99  x0 x1 x2 S) else (gI 6 19 x0 S fun v46 => gI 6 12 x0 S fun v50 => if v50 ≤ v46 then (J_X8_script_99  x0 x1 x2 S) else (gI 6 19 x0 S fun v58 => if x1 ≤ 0 then (J_X8_script_70 rec41 x0 x1 (0 : Int32) v58 x0 S) else (J_X8_script_70 rec41 x0 x1 (1 : Int32) v58 x0 S)))
set_option maxRecDepth 20000 in
set_option maxHeartbeats 4000000 in
def L_X8_script_41  : Nat → Nat → Int32 → Int32 → St → Option (Int32 × St)
  | 0, _, _, _, _ => none
  | n + 1, x0, x1, x2, S => B_X8_script_41  (L_X8_script_41  n) x0 x1 x2 S
set_option maxRecDepth 20000 in
set_option maxHeartbeats 4000000 in
def F_X8_script (c : Nat) (S : St) : Option (Int32 × St) :=
  gk c 6 <| cl (F_X8_isForm c S) fun r1 S1 => if ¬ r1 = 0 then (gR 6 0 c fun v22 => gR 6 2 c fun v26 => cl (F_X8_take v22 v26 S1) fun _ S29 => pI 6 19 c (0 : Int32) S29 fun S34 => L_X8_script_41  6000 c (0 : Int32) (1 : Int32) S34) else (pI 6 12 c (0 : Int32) S1 fun S9 => gI 6 20 c S9 fun v16 => some (((-1000 : Int32) - v16), S9))
set_option maxRecDepth 20000 in
set_option maxHeartbeats 4000000 in
def F_X8_image (c : Nat) (S : St) : Option (Int32 × St) :=
  gR 6 0 c fun v1 => gR 6 3 c fun v5 => cl (F_X8_take v1 v5 S) fun _ S8 => pZ 6 4 c (1 : Int32) S8 fun S13 => gR 6 0 c fun v17 => aJ v17 (2521 : Int32) S13 fun v23 => some ((Int64.toInt32 v23), S13)
set_option maxRecDepth 20000 in
set_option maxHeartbeats 4000000 in
def J_X8_back_67 (rec23 : (Nat → Int32 → St → Option (Int32 × St))) (x0 : Nat) (x1 : Int32) (t0 : Int32) (t1 : Int32) (t2 : Nat) (S : St) : Option (Int32 × St) :=
  sI t2 t1 t0 S fun S67 => rec23 x0 (x1 + 1) S67
set_option maxRecDepth 20000 in
set_option maxHeartbeats 4000000 in
def J_X8_back_61 (rec23 : (Nat → Int32 → St → Option (Int32 × St))) (x0 : Nat) (x1 : Int32) (t0 : Int32) (t1 : Nat) (S : St) : Option (Int32 × St) :=
  gR 6 13 x0 fun v62 => aI v62 x1 S fun v66 => J_X8_back_67 rec23 x0 x1 v66 t0 t1 S
set_option maxRecDepth 20000 in
set_option maxHeartbeats 4000000 in
def B_X8_back_23 (rec23 : (Nat → Int32 → St → Option (Int32 × St))) (x0 : Nat) (x1 : Int32)  (S : St) : Option (Int32 × St) :=
  if (6 : Int32) ≤ x1 then (gR 6 0 x0 fun v75 => aJ v75 (2521 : Int32) S fun v81 => some ((Int64.toInt32 v81), S)) else (gR 6 13 x0 fun v30 => gR 6 13 x0 fun v35 => aI v35 x1 S fun v39 => if ¬ v39 = (1 : Int32) then (J_X8_back_61 rec23 x0 x1 x1 v30 S) else (gR 6 14 x0 fun v46 => aI v46 x1 S fun v50 => gk x0 6 <| cl (F_X8_isLoan x0 v50 S) fun r51 S51 => if ¬ r51 = 0 then (J_X8_back_61 rec23 x0 x1 x1 v30 S51) else (J_X8_back_67 rec23 x0 x1 (0 : Int32) x1 v30 S51)))
set_option maxRecDepth 20000 in
set_option maxHeartbeats 4000000 in
def L_X8_back_23  : Nat → Nat → Int32 → St → Option (Int32 × St)
  | 0, _, _, _ => none
  | n + 1, x0, x1, S => B_X8_back_23  (L_X8_back_23  n) x0 x1 S
set_option maxRecDepth 20000 in
set_option maxHeartbeats 4000000 in
def F_X8_back (c : Nat) (S : St) : Option (Int32 × St) :=
  gI 6 4 c S fun v1 => if ¬ v1 = 0 then (gR 6 3 c fun v11 => gR 6 0 c fun v15 => cl (F_X8_take v11 v15 S) fun _ S18 => L_X8_back_23  6000 c (0 : Int32) S18) else (some ((-5 : Int32), S))
set_option maxRecDepth 20000 in
set_option maxHeartbeats 4000000 in
def J_X8_hold_21    (S : St) : Option (Int32 × St) :=
  some ((-1 : Int32), S)
set_option maxRecDepth 20000 in
set_option maxHeartbeats 4000000 in
def J_X8_hold_94    (S : St) : Option (Int32 × St) :=
  some ((1 : Int32), S)
set_option maxRecDepth 20000 in
set_option maxHeartbeats 4000000 in
def J_X8_hold_53  (x0 : Nat) (x1 : Int32) (x2 : Int32) (x3 : Int32) (t0 : Int32) (t1 : Int32) (t2 : Nat) (S : St) : Option (Int32 × St) :=
  sI t2 t1 t0 S fun S53 => gR 6 14 x0 fun v55 => sI v55 x1 x2 S53 fun S60 => if x3 < 0 then (J_X8_hold_94  S60) else (gR 6 15 x0 fun v66 => gk x0 6 <| cl (F_X8_at x0 x2 ((15 : Int32) + ((5 : Int32) * x3)) S60) fun r78 S78 => sJ v66 x1 r78 S78 fun S81 => gR 6 16 x0 fun v83 => gk x0 6 <| cl (F_X8_asks x0 x2 x3 S81) fun r90 S90 => sJ v83 x1 r90 S90 fun S93 => J_X8_hold_94  S93)
set_option maxRecDepth 20000 in
set_option maxHeartbeats 4000000 in
def F_X8_hold (c : Nat) (a1 : Int32) (a2 : Int32) (a3 : Int32) (S : St) : Option (Int32 × St) :=
  gk c 6 <| cl (F_X8_isHolder c a1 S) fun r2 S2 => if r2 = 0 then (J_X8_hold_21  S2) else (gk c 6 <| cl (F_X8_isLoan c a2 S2) fun r10 S10 => if r10 = 0 then (J_X8_hold_21  S10) else (if (-1 : Int32) ≤ a3 then (gk c 6 <| cl (F_X8_at c a2 (14 : Int32) S10) fun r29 S29 => if (Int32.toInt64 a3) < r29 then (gR 6 13 c fun v40 => if 0 ≤ a3 then (J_X8_hold_53  c a1 a2 a3 (2 : Int32) a1 v40 S29) else (J_X8_hold_53  c a1 a2 a3 (1 : Int32) a1 v40 S29)) else (some ((-2 : Int32), S29))) else (J_X8_hold_21  S10)))
set_option maxRecDepth 20000 in
set_option maxHeartbeats 4000000 in
def J_X8_row_14    (S : St) : Option (Int32 × St) :=
  some ((-1 : Int32), S)
set_option maxRecDepth 20000 in
set_option maxHeartbeats 4000000 in
def B_X8_row_56 (rec56 : (Nat → Int32 → Int32 → St → Option (Int32 × St))) (x0 : Nat) (x1 : Int32) (x3 : Int32)  (S : St) : Option (Int32 × St) :=
  if (60 : Int32) ≤ x3 then (some ((1 : Int32), S)) else (gR 6 18 x0 fun v63 => aR 15 v63 x1 fun v67 => sJ v67 x3 (0 : Int64) S fun S70 => rec56 x0 x1 (x3 + 1) S70)
set_option maxRecDepth 20000 in
set_option maxHeartbeats 4000000 in
def L_X8_row_56  : Nat → Nat → Int32 → Int32 → St → Option (Int32 × St)
  | 0, _, _, _, _ => none
  | n + 1, x0, x1, x3, S => B_X8_row_56  (L_X8_row_56  n) x0 x1 x3 S
set_option maxRecDepth 20000 in
set_option maxHeartbeats 4000000 in
def J_X8_row_53  (x0 : Nat) (x1 : Int32) (t0 : Int32) (t1 : Int32) (t2 : Nat) (S : St) : Option (Int32 × St) :=
  sI t2 t1 t0 S fun S53 => L_X8_row_56  6000 x0 x1 (0 : Int32) S53
set_option maxRecDepth 20000 in
set_option maxHeartbeats 4000000 in
def J_X8_row_38  (x0 : Nat) (x1 : Int32) (x2 : Int32) (t0 : Int32) (t1 : Int32) (t2 : Nat) (S : St) : Option (Int32 × St) :=
  sI t2 t1 t0 S fun S38 => gR 6 17 x0 fun v40 => if 0 ≤ x2 then (J_X8_row_53  x0 x1 x2 x1 v40 S38) else (J_X8_row_53  x0 x1 (0 : Int32) x1 v40 S38)
set_option maxRecDepth 20000 in
set_option maxHeartbeats 4000000 in
def F_X8_row (c : Nat) (a1 : Int32) (a2 : Int32) (S : St) : Option (Int32 × St) :=
  gk c 6 <| cl (F_X8_isHolder c a1 S) fun r2 S2 => if r2 = 0 then (J_X8_row_14  S2) else (if a2 ≤ (60 : Int32) then (if (-1 : Int32) ≤ a2 then (gR 6 13 c fun v25 => if 0 ≤ a2 then (J_X8_row_38  c a1 a2 (3 : Int32) a1 v25 S2) else (J_X8_row_38  c a1 a2 (0 : Int32) a1 v25 S2)) else (some ((-14 : Int32), S2))) else (J_X8_row_14  S2))
set_option maxRecDepth 20000 in
set_option maxHeartbeats 4000000 in
def J_X8_put_36   (t0 : Int32) (S : St) : Option (Int32 × St) :=
  some (t0, S)
set_option maxRecDepth 20000 in
set_option maxHeartbeats 4000000 in
def F_X8_put (c : Nat) (a1 : Int32) (a2 : Int32) (a3 : Int64) (S : St) : Option (Int32 × St) :=
  gk c 6 <| cl (F_X8_isHolder c a1 S) fun r2 S2 => if ¬ r2 = 0 then (gR 6 13 c fun v11 => aI v11 a1 S2 fun v15 => if v15 = (3 : Int32) then (gR 6 17 c fun v41 => aI v41 a1 S2 fun v45 => cl (F_X8_in (Int32.toInt64 a2) (0 : Int64) (Int32.toInt64 (v45 - (1 : Int32))) S2) fun r49 S49 => if ¬ r49 = 0 then (gR 6 18 c fun v59 => aR 15 v59 a1 fun v63 => sJ v63 a2 a3 S49 fun S66 => some ((1 : Int32), S66)) else (some ((-13 : Int32), S49))) else (gR 6 13 c fun v21 => aI v21 a1 S2 fun v25 => if ¬ v25 = 0 then (J_X8_put_36  (-12 : Int32) S2) else (J_X8_put_36  (-11 : Int32) S2))) else (some ((-1 : Int32), S2))
set_option maxRecDepth 20000 in
set_option maxHeartbeats 4000000 in
def J_X8_tells_20    (S : St) : Option (Int64 × St) :=
  some ((-1 : Int64), S)
set_option maxRecDepth 20000 in
set_option maxHeartbeats 4000000 in
def J_X8_tells_109   (t0 : Int64) (S : St) : Option (Int64 × St) :=
  some (t0, S)
set_option maxRecDepth 20000 in
set_option maxHeartbeats 4000000 in
def J_X8_tells_133   (t0 : Int64) (S : St) : Option (Int64 × St) :=
  some (t0, S)
set_option maxRecDepth 20000 in
set_option maxHeartbeats 4000000 in
def J_X8_tells_156   (t0 : Int64) (S : St) : Option (Int64 × St) :=
  some (t0, S)
set_option maxRecDepth 20000 in
set_option maxHeartbeats 4000000 in
def J_X8_tells_191   (t0 : Int64) (S : St) : Option (Int64 × St) :=
  some (t0, S)
set_option maxRecDepth 20000 in
set_option maxHeartbeats 4000000 in
def J_X8_tells_188    (S : St) : Option (Int64 × St) :=
  J_X8_tells_191  (-12 : Int64) S
set_option maxRecDepth 20000 in
set_option maxHeartbeats 4000000 in
def F_X8_tells (c : Nat) (a1 : Int32) (a2 : Int32) (S : St) : Option (Int64 × St) :=
  gk c 6 <| cl (F_X8_isHolder c a1 S) fun r2 S2 => if r2 = 0 then (J_X8_tells_20  S2) else (cl (F_X8_in (Int32.toInt64 a2) (0 : Int64) (3 : Int64) S2) fun r14 S14 => if ¬ r14 = 0 then (gR 6 13 c fun v25 => aI v25 a1 S14 fun v29 => if ¬ v29 = 0 then (gR 6 14 c fun v38 => aI v38 a1 S14 fun v42 => sw a2 (gR 6 13 c fun v158 => aI v158 a1 S14 fun v162 => if ¬ v162 = (1 : Int32) then (J_X8_tells_188  S14) else (gk c 6 <| cl (F_X8_at c v42 (3 : Int32) S14) fun r170 S170 => if ¬ r170 = (0 : Int64) then (J_X8_tells_188  S170) else (gk c 6 <| cl (F_X8_at c v42 (9 : Int32) S170) fun r182 S182 => J_X8_tells_191  r182 S182))) [(0, gR 6 13 c fun v73 => aI v73 a1 S14 fun v77 => if ¬ v77 = (3 : Int32) then (gR 6 13 c fun v89 => aI v89 a1 S14 fun v93 => if ¬ v93 = (1 : Int32) then (gR 6 15 c fun v104 => aJ v104 a1 S14 fun v108 => J_X8_tells_109  v108 S14) else (J_X8_tells_109  (Int32.toInt64 v42) S14)) else (J_X8_tells_109  (-12 : Int64) S14)), (1, gR 6 13 c fun v111 => aI v111 a1 S14 fun v115 => if ¬ v115 = (1 : Int32) then (J_X8_tells_133  (-12 : Int64) S14) else (gk c 6 <| cl (F_X8_at c v42 (8 : Int32) S14) fun r124 S124 => J_X8_tells_133  r124 S124)), (2, gR 6 13 c fun v135 => aI v135 a1 S14 fun v139 => if ¬ v139 = (2 : Int32) then (J_X8_tells_156  (-12 : Int64) S14) else (gR 6 16 c fun v145 => aJ v145 a1 S14 fun v149 => J_X8_tells_156  v149 S14))]) else (some ((-11 : Int64), S14))) else (J_X8_tells_20  S14))
set_option maxRecDepth 20000 in
set_option maxHeartbeats 4000000 in
def B_X8_bills_4 (rec4 : (Nat → Int32 → Int32 → St → Option (Int32 × St))) (x0 : Nat) (x1 : Int32) (x2 : Int32)  (S : St) : Option (Int32 × St) :=
  gR 6 0 x0 fun v7 => aJ v7 (2520 : Int32) S fun v13 => if v13 ≤ (Int32.toInt64 x2) then (some (x1, S)) else (gk x0 6 <| cl (F_X8_at x0 x2 (14 : Int32) S) fun r24 S24 => bd ((Int64.toInt32 ((Int32.toInt64 x1) + r24))) fun v29 => rec4 x0 v29 (x2 + 1) S24)
set_option maxRecDepth 20000 in
set_option maxHeartbeats 4000000 in
def L_X8_bills_4  : Nat → Nat → Int32 → Int32 → St → Option (Int32 × St)
  | 0, _, _, _, _ => none
  | n + 1, x0, x1, x2, S => B_X8_bills_4  (L_X8_bills_4  n) x0 x1 x2 S
set_option maxRecDepth 20000 in
set_option maxHeartbeats 4000000 in
def F_X8_bills (c : Nat) (S : St) : Option (Int32 × St) :=
  L_X8_bills_4  6000 c (0 : Int32) (0 : Int32) S
set_option maxRecDepth 20000 in
set_option maxHeartbeats 4000000 in
def J_X8_count_139 (rec95 : (Nat → Int32 → Int32 → St → Option (Int32 × St))) (x0 : Nat) (x3 : Int32) (t0 : Int32) (t1 : Int32) (S : St) : Option (Int32 × St) :=
  bd ((t1 + t0)) fun v140 => rec95 x0 v140 (x3 + 1) S
set_option maxRecDepth 20000 in
set_option maxHeartbeats 4000000 in
def J_X8_count_138 (rec95 : (Nat → Int32 → Int32 → St → Option (Int32 × St))) (x0 : Nat) (x3 : Int32) (t0 : Int32) (S : St) : Option (Int32 × St) :=
  J_X8_count_139 rec95 x0 x3 (0 : Int32) t0 S
set_option maxRecDepth 20000 in
set_option maxHeartbeats 4000000 in
def B_X8_count_95 (rec95 : (Nat → Int32 → Int32 → St → Option (Int32 × St))) (x0 : Nat) (x2 : Int32) (x3 : Int32)  (S : St) : Option (Int32 × St) :=
  gR 6 0 x0 fun v98 => aJ v98 (2520 : Int32) S fun v104 => if v104 ≤ (Int32.toInt64 x3) then (some (x2, S)) else (gk x0 6 <| cl (F_X8_at x0 x3 (8 : Int32) S) fun r114 S114 => if ¬ r114 = (0 : Int64) then (J_X8_count_138 rec95 x0 x3 x2 S114) else (gk x0 6 <| cl (F_X8_at x0 x3 (14 : Int32) S114) fun r126 S126 => if ¬ r126 = (0 : Int64) then (J_X8_count_138 rec95 x0 x3 x2 S126) else (J_X8_count_139 rec95 x0 x3 (1 : Int32) x2 S126)))
set_option maxRecDepth 20000 in
set_option maxHeartbeats 4000000 in
def L_X8_count_95  : Nat → Nat → Int32 → Int32 → St → Option (Int32 × St)
  | 0, _, _, _, _ => none
  | n + 1, x0, x2, x3, S => B_X8_count_95  (L_X8_count_95  n) x0 x2 x3 S
set_option maxRecDepth 20000 in
set_option maxHeartbeats 4000000 in
def J_X8_count_177 (rec156 : (Nat → Int32 → Int32 → St → Option (Int32 × St))) (x0 : Nat) (x3 : Int32) (t0 : Int32) (t1 : Int32) (S : St) : Option (Int32 × St) :=
  bd ((t1 + t0)) fun v178 => rec156 x0 v178 (x3 + 1) S
set_option maxRecDepth 20000 in
set_option maxHeartbeats 4000000 in
def B_X8_count_156 (rec156 : (Nat → Int32 → Int32 → St → Option (Int32 × St))) (x0 : Nat) (x2 : Int32) (x3 : Int32)  (S : St) : Option (Int32 × St) :=
  if (6 : Int32) ≤ x3 then (some (x2, S)) else (gR 6 13 x0 fun v164 => aI v164 x3 S fun v168 => if v168 = 0 then (J_X8_count_177 rec156 x0 x3 (0 : Int32) x2 S) else (J_X8_count_177 rec156 x0 x3 (1 : Int32) x2 S))
set_option maxRecDepth 20000 in
set_option maxHeartbeats 4000000 in
def L_X8_count_156  : Nat → Nat → Int32 → Int32 → St → Option (Int32 × St)
  | 0, _, _, _, _ => none
  | n + 1, x0, x2, x3, S => B_X8_count_156  (L_X8_count_156  n) x0 x2 x3 S
set_option maxRecDepth 20000 in
set_option maxHeartbeats 4000000 in
def F_X8_count (c : Nat) (a1 : Int32) (S : St) : Option (Int32 × St) :=
  sw a1 (some ((-1 : Int32), S)) [(0, gR 6 0 c fun v49 => aJ v49 (2520 : Int32) S fun v55 => some ((Int64.toInt32 v55), S)), (1, gk c 6 <| cl (F_X8_bills c S) fun r59 S59 => some (r59, S59)), (2, gR 6 0 c fun v64 => aJ v64 (2521 : Int32) S fun v70 => some ((Int64.toInt32 v70), S)), (3, gR 6 0 c fun v74 => aJ v74 (2522 : Int32) S fun v80 => some ((Int64.toInt32 v80), S)), (4, gR 6 0 c fun v84 => aJ v84 (2523 : Int32) S fun v90 => some ((Int64.toInt32 v90), S)), (5, L_X8_count_95  6000 c (0 : Int32) (0 : Int32) S), (6, gI 6 12 c S fun v150 => some (v150, S)), (7, L_X8_count_156  6000 c (0 : Int32) (0 : Int32) S)]
