set_option maxRecDepth 20000 in
set_option maxHeartbeats 4000000 in
theorem sB_X8_firstGoes_13 (Z : ZT) (rec13 : (Nat → Int32 → Int32 → Int32 → St → Option (Unit × St))) (h13 : ∀ (x0 : Nat) (x1 : Int32) (x2 : Int32) (x3 : Int32)  (S : St), Sim eV Z rm_X8_firstGoes RX8 cX8_firstGoes 4 none 13 [(0, .ref x0), (1, .int x1), (2, .int x2), (3, .int x3)] [] S (rec13 x0 x1 x2 x3 S)) (x0 : Nat) (x1 : Int32) (x2 : Int32) (x3 : Int32)  (S : St) : Sim eV Z rm_X8_firstGoes RX8 cX8_firstGoes 4 none 13 [(0, .ref x0), (1, .int x1), (2, .int x2), (3, .int x3)] [] S (B_X8_firstGoes_13 rec13 x0 x1 x2 x3 S) := by
  unfold B_X8_firstGoes_13
  refine sm_iload_n (pc := 13) dX8_firstGoes_13 rfl 3 rfl ?_
  refine sm_iconst (pc := 14) (5 : Int32) dX8_firstGoes_14 (by decide) ?_
  refine sm_iload_n (pc := 15) dX8_firstGoes_15 rfl 2 rfl ?_
  refine sm_imul (pc := 16) dX8_firstGoes_16 ?_
  refine sm_icmp_ge 46 (pc := 17) dX8_firstGoes_17 rfl ?_ ?_
  · refine sm_aload_n (pc := 46) dX8_firstGoes_46 rfl 0 rfl ?_
    refine sm_iload_n (pc := 47) dX8_firstGoes_47 rfl 1 rfl ?_
    refine sm_bipush (pc := 48) (14 : Int32) dX8_firstGoes_48 (by decide) ?_
    refine sm_iload_n (pc := 50) dX8_firstGoes_50 rfl 2 rfl ?_
    refine sm_i2l (pc := 51) dX8_firstGoes_51 ?_
    refine sm_callVV (pc := 52) [.int x1, .int (14 : Int32), .long (Int32.toInt64 x2)] (fun lq rq Sq hq => m_X8_sets Z lq x0 x1 (14 : Int32) (Int32.toInt64 x2) S hq) dX8_firstGoes_52 mi_X8_sets ml_RX8_160 ⟨Nat.le_of_ble_eq_true rfl, Nat.le_of_ble_eq_true rfl, rfl, rfl⟩ rfl (by decide) rfl (Nat.le_of_ble_eq_true rfl) rfl (fun _ S52 => ?_)
    exact sm_retV (pc := 55) dX8_firstGoes_55
  refine sm_aload_n (pc := 20) dX8_firstGoes_20 rfl 0 rfl ?_
  refine sm_iload_n (pc := 21) dX8_firstGoes_21 rfl 1 rfl ?_
  refine sm_bipush (pc := 22) (15 : Int32) dX8_firstGoes_22 (by decide) ?_
  refine sm_iload_n (pc := 24) dX8_firstGoes_24 rfl 3 rfl ?_
  refine sm_iadd (pc := 25) dX8_firstGoes_25 ?_
  refine sm_aload_n (pc := 26) dX8_firstGoes_26 rfl 0 rfl ?_
  refine sm_iload_n (pc := 27) dX8_firstGoes_27 rfl 1 rfl ?_
  refine sm_bipush (pc := 28) (15 : Int32) dX8_firstGoes_28 (by decide) ?_
  refine sm_iload_n (pc := 30) dX8_firstGoes_30 rfl 3 rfl ?_
  refine sm_iadd (pc := 31) dX8_firstGoes_31 ?_
  refine sm_iconst (pc := 32) (5 : Int32) dX8_firstGoes_32 (by decide) ?_
  refine sm_iadd (pc := 33) dX8_firstGoes_33 ?_
  refine sm_callVL (pc := 34) [.int x1, .int (((15 : Int32) + x3) + (5 : Int32))] (fun lq rq Sq hq => m_X8_at Z lq x0 x1 (((15 : Int32) + x3) + (5 : Int32)) S hq) dX8_firstGoes_34 mi_X8_at ml_RX8_136 ⟨Nat.le_of_ble_eq_true rfl, Nat.le_of_ble_eq_true rfl, rfl, rfl⟩ rfl (by decide) rfl (Nat.le_of_ble_eq_true rfl) rfl (fun r34 S34 => ?_)
  refine sm_callVV (pc := 37) [.int x1, .int ((15 : Int32) + x3), .long r34] (fun lq rq Sq hq => m_X8_sets Z lq x0 x1 ((15 : Int32) + x3) r34 S34 hq) dX8_firstGoes_37 mi_X8_sets ml_RX8_160 ⟨Nat.le_of_ble_eq_true rfl, Nat.le_of_ble_eq_true rfl, rfl, rfl⟩ rfl (by decide) rfl (Nat.le_of_ble_eq_true rfl) rfl (fun _ S37 => ?_)
  refine sm_iinc (pc := 40) (x3 + 1) (lv' := [(3, .int (x3 + 1)), (0, .ref x0), (1, .int x1), (2, .int x2)]) dX8_firstGoes_40 3 rfl rfl (by decide) rfl ?_
  refine sm_goto 13 (pc := 43) dX8_firstGoes_43 rfl ?_
  refine sm_sub [1, 2, 3, 0] rfl ?_
  exact h13 x0 x1 x2 (x3 + 1) S37
set_option maxRecDepth 20000 in
set_option maxHeartbeats 4000000 in
theorem sL_X8_firstGoes_13 (Z : ZT)  (n : Nat) : ∀ (x0 : Nat) (x1 : Int32) (x2 : Int32) (x3 : Int32)  (S : St), Sim eV Z rm_X8_firstGoes RX8 cX8_firstGoes 4 none 13 [(0, .ref x0), (1, .int x1), (2, .int x2), (3, .int x3)] [] S (L_X8_firstGoes_13  n x0 x1 x2 x3 S) := by
  induction n with
  | zero => intros; exact sm_none
  | succ n ih => intro x0 x1 x2 x3 S; exact sB_X8_firstGoes_13 Z  (L_X8_firstGoes_13  n) ih x0 x1 x2 x3 S
set_option maxRecDepth 20000 in
set_option maxHeartbeats 4000000 in
theorem s_X8_firstGoes (Z : ZT) (c : Nat) (a1 : Int32) (S : St) : Sim eV Z rm_X8_firstGoes RX8 cX8_firstGoes 4 none 0 [(0, .ref c), (1, .int a1)] [] S (F_X8_firstGoes c a1 S) := by
  unfold F_X8_firstGoes
  refine sm_aload_n (pc := 0) dX8_firstGoes_0 rfl 0 rfl ?_
  refine sm_iload_n (pc := 1) dX8_firstGoes_1 rfl 1 rfl ?_
  refine sm_bipush (pc := 2) (14 : Int32) dX8_firstGoes_2 (by decide) ?_
  refine sm_callVL (pc := 4) [.int a1, .int (14 : Int32)] (fun lq rq Sq hq => m_X8_at Z lq c a1 (14 : Int32) S hq) dX8_firstGoes_4 mi_X8_at ml_RX8_136 ⟨Nat.le_of_ble_eq_true rfl, Nat.le_of_ble_eq_true rfl, rfl, rfl⟩ rfl (by decide) rfl (Nat.le_of_ble_eq_true rfl) rfl (fun r4 S4 => ?_)
  refine sm_l2i (pc := 7) dX8_firstGoes_7 ?_
  refine sm_iconst (pc := 8) (1 : Int32) dX8_firstGoes_8 (by decide) ?_
  refine sm_isub (pc := 9) dX8_firstGoes_9 ?_
  refine sm_bdI (fun v10 => ?_)
  refine sm_istore_n (pc := 10) (lv' := [(2, .int v10), (0, .ref c), (1, .int a1)]) dX8_firstGoes_10 rfl (by decide) rfl ?_
  refine sm_iconst (pc := 11) (0 : Int32) dX8_firstGoes_11 (by decide) ?_
  refine sm_istore_n (pc := 12) (lv' := [(3, .int (0 : Int32)), (2, .int v10), (0, .ref c), (1, .int a1)]) dX8_firstGoes_12 rfl (by decide) rfl ?_
  refine sm_sub [2, 3, 1, 0] rfl ?_
  exact sL_X8_firstGoes_13 Z  6000 c a1 v10 (0 : Int32) S4
set_option maxRecDepth 20000 in
set_option maxHeartbeats 4000000 in
theorem m_X8_firstGoes (Z : ZT) (l : Launch) (c : Nat) (a1 : Int32) (S : St) {r : Unit} {S' : St} (h : F_X8_firstGoes c a1 S = some (r, S')) : MetX Z l yX8_firstGoes cX8_firstGoes 4 none rm_X8_firstGoes [.ref c, .int a1] S (eV r) S' := Sim.met (by decide +kernel) rfl (Nat.le_of_ble_eq_true rfl) (s_X8_firstGoes Z c a1 S) l h
set_option maxRecDepth 20000 in
set_option maxHeartbeats 4000000 in
theorem s_X8_asks (Z : ZT) (c : Nat) (a1 : Int32) (a2 : Int32) (S : St) : Sim eL Z rm_X8_asks RX8 cX8_asks 4 (some .long) 0 [(0, .ref c), (1, .int a1), (2, .int a2)] [] S (F_X8_asks c a1 a2 S) := by
  unfold F_X8_asks
  refine sm_bipush (pc := 0) (15 : Int32) dX8_asks_0 (by decide) ?_
  refine sm_iconst (pc := 2) (5 : Int32) dX8_asks_2 (by decide) ?_
  refine sm_iload_n (pc := 3) dX8_asks_3 rfl 2 rfl ?_
  refine sm_imul (pc := 4) dX8_asks_4 ?_
  refine sm_iadd (pc := 5) dX8_asks_5 ?_
  refine sm_bdI (fun v6 => ?_)
  refine sm_istore_n (pc := 6) (lv' := [(3, .int v6), (0, .ref c), (1, .int a1), (2, .int a2)]) dX8_asks_6 rfl (by decide) rfl ?_
  refine sm_aload_n (pc := 7) dX8_asks_7 rfl 1 rfl ?_
  refine sm_iload_n (pc := 8) dX8_asks_8 rfl 2 rfl ?_
  refine sm_iload_n (pc := 9) dX8_asks_9 rfl 0 rfl ?_
  refine sm_iconst (pc := 10) (1 : Int32) dX8_asks_10 (by decide) ?_
  refine sm_iadd (pc := 11) dX8_asks_11 ?_
  refine sm_callVL (pc := 12) [.int a1, .int (v6 + (1 : Int32))] (fun lq rq Sq hq => m_X8_at Z lq c a1 (v6 + (1 : Int32)) S hq) dX8_asks_12 mi_X8_at ml_RX8_136 ⟨Nat.le_of_ble_eq_true rfl, Nat.le_of_ble_eq_true rfl, rfl, rfl⟩ rfl (by decide) rfl (Nat.le_of_ble_eq_true rfl) rfl (fun r12 S12 => ?_)
  refine sm_aload_n (pc := 15) dX8_asks_15 rfl 1 rfl ?_
  refine sm_iload_n (pc := 16) dX8_asks_16 rfl 2 rfl ?_
  refine sm_iload_n (pc := 17) dX8_asks_17 rfl 0 rfl ?_
  refine sm_iconst (pc := 18) (2 : Int32) dX8_asks_18 (by decide) ?_
  refine sm_iadd (pc := 19) dX8_asks_19 ?_
  refine sm_callVL (pc := 20) [.int a1, .int (v6 + (2 : Int32))] (fun lq rq Sq hq => m_X8_at Z lq c a1 (v6 + (2 : Int32)) S12 hq) dX8_asks_20 mi_X8_at ml_RX8_136 ⟨Nat.le_of_ble_eq_true rfl, Nat.le_of_ble_eq_true rfl, rfl, rfl⟩ rfl (by decide) rfl (Nat.le_of_ble_eq_true rfl) rfl (fun r20 S20 => ?_)
  refine sm_ladd (pc := 23) dX8_asks_23 ?_
  refine sm_aload_n (pc := 24) dX8_asks_24 rfl 1 rfl ?_
  refine sm_iload_n (pc := 25) dX8_asks_25 rfl 2 rfl ?_
  refine sm_iload_n (pc := 26) dX8_asks_26 rfl 0 rfl ?_
  refine sm_iconst (pc := 27) (3 : Int32) dX8_asks_27 (by decide) ?_
  refine sm_iadd (pc := 28) dX8_asks_28 ?_
  refine sm_callVL (pc := 29) [.int a1, .int (v6 + (3 : Int32))] (fun lq rq Sq hq => m_X8_at Z lq c a1 (v6 + (3 : Int32)) S20 hq) dX8_asks_29 mi_X8_at ml_RX8_136 ⟨Nat.le_of_ble_eq_true rfl, Nat.le_of_ble_eq_true rfl, rfl, rfl⟩ rfl (by decide) rfl (Nat.le_of_ble_eq_true rfl) rfl (fun r29 S29 => ?_)
  refine sm_ladd (pc := 32) dX8_asks_32 ?_
  exact sm_retL (pc := 33) dX8_asks_33
set_option maxRecDepth 20000 in
set_option maxHeartbeats 4000000 in
theorem m_X8_asks (Z : ZT) (l : Launch) (c : Nat) (a1 : Int32) (a2 : Int32) (S : St) {r : Int64} {S' : St} (h : F_X8_asks c a1 a2 S = some (r, S')) : MetX Z l yX8_asks cX8_asks 4 (some .long) rm_X8_asks [.ref c, .int a1, .int a2] S (eL r) S' := Sim.met (by decide +kernel) rfl (Nat.le_of_ble_eq_true rfl) (s_X8_asks Z c a1 a2 S) l h
set_option maxRecDepth 20000 in
set_option maxHeartbeats 4000000 in
theorem sJ_X8_pays_70 (Z : ZT) (rec27 : (Nat → Int32 → Int64 → St → Option (Unit × St))) (h27 : ∀ (x0 : Nat) (x1 : Int32) (x4 : Int64)  (S : St), Sim eV Z rm_X8_pays RX8 cX8_pays 9 none 27 [(0, .ref x0), (1, .int x1), (4, .long x4)] [] S (rec27 x0 x1 x4 S)) (rec49 : (Nat → Int32 → Int64 → Int32 → St → Option (Unit × St))) (h49 : ∀ (x0 : Nat) (x1 : Int32) (x4 : Int64) (x6 : Int32)  (S : St), Sim eV Z rm_X8_pays RX8 cX8_pays 9 none 49 [(0, .ref x0), (1, .int x1), (4, .long x4), (6, .int x6)] [] S (rec49 x0 x1 x4 x6 S)) (x0 : Nat) (x1 : Int32) (x4 : Int64) (x6 : Int32) (t0 : Int32) (t1 : Int32) (t2 : Int32) (t3 : Nat) (S : St) : Sim eV Z rm_X8_pays RX8 cX8_pays 9 none 70 [(0, .ref x0), (1, .int x1), (4, .long x4), (6, .int x6)] [.int t0, .int t1, .int t2, .ref t3] S (J_X8_pays_70 rec27 rec49 x0 x1 x4 x6 t0 t1 t2 t3 S) := by
  unfold J_X8_pays_70
  refine sm_iadd (pc := 70) dX8_pays_70 ?_
  refine sm_lload (pc := 71) dX8_pays_71 2 rfl ?_
  refine sm_callVL (pc := 73) [.int t2, .int (t1 + t0), .long x4] (fun lq rq Sq hq => m_X8_paidOff Z lq t3 t2 (t1 + t0) x4 S hq) dX8_pays_73 mi_X8_paidOff ml_RX8_187 ⟨Nat.le_of_ble_eq_true rfl, Nat.le_of_ble_eq_true rfl, rfl, rfl⟩ rfl (by decide) rfl (Nat.le_of_ble_eq_true rfl) rfl (fun r73 S73 => ?_)
  refine sm_lstore (pc := 76) (lv' := [(7, .long r73), (0, .ref x0), (1, .int x1), (4, .long x4), (6, .int x6)]) dX8_pays_76 (by decide) rfl ?_
  refine sm_aload_n (pc := 78) dX8_pays_78 rfl 1 rfl ?_
  refine sm_getR (pc := 79) dX8_pays_79 fr_RX8_35 (by decide) rfl (fun v79 => ?_)
  refine sm_iload (pc := 82) dX8_pays_82 4 rfl ?_
  refine sm_dup2_11 (pc := 84) dX8_pays_84 rfl rfl ?_
  refine sm_aJ (pc := 85) dX8_pays_85 (fun v85 => ?_)
  refine sm_lload (pc := 86) dX8_pays_86 0 rfl ?_
  refine sm_ladd (pc := 88) dX8_pays_88 ?_
  refine sm_sJ (pc := 89) dX8_pays_89 (fun S89 => ?_)
  refine sm_lload (pc := 90) dX8_pays_90 3 rfl ?_
  refine sm_lload (pc := 92) dX8_pays_92 0 rfl ?_
  refine sm_lsub (pc := 94) dX8_pays_94 ?_
  refine sm_bdJ (fun v95 => ?_)
  refine sm_lstore (pc := 95) (lv' := [(4, .long v95), (7, .long r73), (0, .ref x0), (1, .int x1), (6, .int x6)]) dX8_pays_95 (by decide) rfl ?_
  refine sm_iinc (pc := 97) (x6 + 1) (lv' := [(6, .int (x6 + 1)), (4, .long v95), (7, .long r73), (0, .ref x0), (1, .int x1)]) dX8_pays_97 4 rfl rfl (by decide) rfl ?_
  refine sm_goto 49 (pc := 100) dX8_pays_100 rfl ?_
  refine sm_sub [3, 4, 1, 0] rfl ?_
  exact h49 x0 x1 v95 (x6 + 1) S89
set_option maxRecDepth 20000 in
set_option maxHeartbeats 4000000 in
theorem sJ_X8_pays_246 (Z : ZT)  (x0 : Nat) (x1 : Int32)  (S : St) : Sim eV Z rm_X8_pays RX8 cX8_pays 9 none 246 [(0, .ref x0), (1, .int x1)] [] S (J_X8_pays_246  x0 x1 S) := by
  unfold J_X8_pays_246
  refine sm_aload_n (pc := 246) dX8_pays_246 rfl 0 rfl ?_
  refine sm_getR (pc := 247) dX8_pays_247 fr_RX8_35 (by decide) rfl (fun v247 => ?_)
  refine sm_iconst (pc := 250) (5 : Int32) dX8_pays_250 (by decide) ?_
  refine sm_aload_n (pc := 251) dX8_pays_251 rfl 0 rfl ?_
  refine sm_iload_n (pc := 252) dX8_pays_252 rfl 1 rfl ?_
  refine sm_bipush (pc := 253) (9 : Int32) dX8_pays_253 (by decide) ?_
  refine sm_callVL (pc := 255) [.int x1, .int (9 : Int32)] (fun lq rq Sq hq => m_X8_at Z lq x0 x1 (9 : Int32) S hq) dX8_pays_255 mi_X8_at ml_RX8_136 ⟨Nat.le_of_ble_eq_true rfl, Nat.le_of_ble_eq_true rfl, rfl, rfl⟩ rfl (by decide) rfl (Nat.le_of_ble_eq_true rfl) rfl (fun r255 S255 => ?_)
  refine sm_sJ (pc := 258) dX8_pays_258 (fun S258 => ?_)
  exact sm_retV (pc := 259) dX8_pays_259
set_option maxRecDepth 20000 in
set_option maxHeartbeats 4000000 in
theorem sB_X8_pays_158 (Z : ZT) (rec158 : (Nat → Int32 → Int32 → St → Option (Unit × St))) (h158 : ∀ (x0 : Nat) (x1 : Int32) (x6 : Int32)  (S : St), Sim eV Z rm_X8_pays RX8 cX8_pays 9 none 158 [(0, .ref x0), (1, .int x1), (6, .int x6)] [] S (rec158 x0 x1 x6 S)) (x0 : Nat) (x1 : Int32) (x6 : Int32)  (S : St) : Sim eV Z rm_X8_pays RX8 cX8_pays 9 none 158 [(0, .ref x0), (1, .int x1), (6, .int x6)] [] S (B_X8_pays_158 rec158 x0 x1 x6 S) := by
  unfold B_X8_pays_158
  refine sm_iload (pc := 158) dX8_pays_158 2 rfl ?_
  refine sm_iconst (pc := 160) (3 : Int32) dX8_pays_160 (by decide) ?_
  refine sm_icmp_ge 198 (pc := 161) dX8_pays_161 rfl ?_ ?_
  · refine sm_aload_n (pc := 198) dX8_pays_198 rfl 0 rfl ?_
    refine sm_iload_n (pc := 199) dX8_pays_199 rfl 1 rfl ?_
    refine sm_bipush (pc := 200) (12 : Int32) dX8_pays_200 (by decide) ?_
    refine sm_aload_n (pc := 202) dX8_pays_202 rfl 0 rfl ?_
    refine sm_iload_n (pc := 203) dX8_pays_203 rfl 1 rfl ?_
    refine sm_bipush (pc := 204) (12 : Int32) dX8_pays_204 (by decide) ?_
    refine sm_callVL (pc := 206) [.int x1, .int (12 : Int32)] (fun lq rq Sq hq => m_X8_at Z lq x0 x1 (12 : Int32) S hq) dX8_pays_206 mi_X8_at ml_RX8_136 ⟨Nat.le_of_ble_eq_true rfl, Nat.le_of_ble_eq_true rfl, rfl, rfl⟩ rfl (by decide) rfl (Nat.le_of_ble_eq_true rfl) rfl (fun r206 S206 => ?_)
    refine sm_aload_n (pc := 209) dX8_pays_209 rfl 0 rfl ?_
    refine sm_getR (pc := 210) dX8_pays_210 fr_RX8_35 (by decide) rfl (fun v210 => ?_)
    refine sm_iconst (pc := 213) (3 : Int32) dX8_pays_213 (by decide) ?_
    refine sm_aJ (pc := 214) dX8_pays_214 (fun v214 => ?_)
    refine sm_ladd (pc := 215) dX8_pays_215 ?_
    refine sm_callVV (pc := 216) [.int x1, .int (12 : Int32), .long (r206 + v214)] (fun lq rq Sq hq => m_X8_sets Z lq x0 x1 (12 : Int32) (r206 + v214) S206 hq) dX8_pays_216 mi_X8_sets ml_RX8_160 ⟨Nat.le_of_ble_eq_true rfl, Nat.le_of_ble_eq_true rfl, rfl, rfl⟩ rfl (by decide) rfl (Nat.le_of_ble_eq_true rfl) rfl (fun _ S216 => ?_)
    refine sm_aload_n (pc := 219) dX8_pays_219 rfl 0 rfl ?_
    refine sm_getR (pc := 220) dX8_pays_220 fr_RX8_35 (by decide) rfl (fun v220 => ?_)
    refine sm_iconst (pc := 223) (3 : Int32) dX8_pays_223 (by decide) ?_
    refine sm_aJ (pc := 224) dX8_pays_224 (fun v224 => ?_)
    refine sm_lconst (pc := 225) (0 : Int64) dX8_pays_225 (by decide) ?_
    refine sm_lcmp_le 246 (pc := 226) dX8_pays_226 dX8_pays_227 rfl ?_ ?_
    · refine sm_sub [0, 1] rfl ?_
      exact sJ_X8_pays_246 Z  x0 x1 S216
    refine sm_aload_n (pc := 230) dX8_pays_230 rfl 0 rfl ?_
    refine sm_iload_n (pc := 231) dX8_pays_231 rfl 1 rfl ?_
    refine sm_iconst (pc := 232) (5 : Int32) dX8_pays_232 (by decide) ?_
    refine sm_callVL (pc := 233) [.int x1, .int (5 : Int32)] (fun lq rq Sq hq => m_X8_at Z lq x0 x1 (5 : Int32) S216 hq) dX8_pays_233 mi_X8_at ml_RX8_136 ⟨Nat.le_of_ble_eq_true rfl, Nat.le_of_ble_eq_true rfl, rfl, rfl⟩ rfl (by decide) rfl (Nat.le_of_ble_eq_true rfl) rfl (fun r233 S233 => ?_)
    refine sm_lconst (pc := 236) (1 : Int64) dX8_pays_236 (by decide) ?_
    refine sm_lcmp_ne 246 (pc := 237) dX8_pays_237 dX8_pays_238 rfl ?_ ?_
    · refine sm_sub [0, 1] rfl ?_
      exact sJ_X8_pays_246 Z  x0 x1 S233
    refine sm_aload_n (pc := 241) dX8_pays_241 rfl 0 rfl ?_
    refine sm_iload_n (pc := 242) dX8_pays_242 rfl 1 rfl ?_
    refine sm_callVV (pc := 243) [.int x1] (fun lq rq Sq hq => m_X8_level Z lq x0 x1 S233 hq) dX8_pays_243 mi_X8_level ml_RX8_171 ⟨Nat.le_of_ble_eq_true rfl, Nat.le_of_ble_eq_true rfl, rfl, rfl⟩ rfl (by decide) rfl (Nat.le_of_ble_eq_true rfl) rfl (fun _ S243 => ?_)
    refine sm_sub [0, 1] rfl ?_
    exact sJ_X8_pays_246 Z  x0 x1 S243
  refine sm_aload_n (pc := 164) dX8_pays_164 rfl 0 rfl ?_
  refine sm_iload_n (pc := 165) dX8_pays_165 rfl 1 rfl ?_
  refine sm_bipush (pc := 166) (10 : Int32) dX8_pays_166 (by decide) ?_
  refine sm_iload (pc := 168) dX8_pays_168 2 rfl ?_
  refine sm_iadd (pc := 170) dX8_pays_170 ?_
  refine sm_aload_n (pc := 171) dX8_pays_171 rfl 0 rfl ?_
  refine sm_iload_n (pc := 172) dX8_pays_172 rfl 1 rfl ?_
  refine sm_bipush (pc := 173) (10 : Int32) dX8_pays_173 (by decide) ?_
  refine sm_iload (pc := 175) dX8_pays_175 2 rfl ?_
  refine sm_iadd (pc := 177) dX8_pays_177 ?_
  refine sm_callVL (pc := 178) [.int x1, .int ((10 : Int32) + x6)] (fun lq rq Sq hq => m_X8_at Z lq x0 x1 ((10 : Int32) + x6) S hq) dX8_pays_178 mi_X8_at ml_RX8_136 ⟨Nat.le_of_ble_eq_true rfl, Nat.le_of_ble_eq_true rfl, rfl, rfl⟩ rfl (by decide) rfl (Nat.le_of_ble_eq_true rfl) rfl (fun r178 S178 => ?_)
  refine sm_aload_n (pc := 181) dX8_pays_181 rfl 0 rfl ?_
  refine sm_getR (pc := 182) dX8_pays_182 fr_RX8_35 (by decide) rfl (fun v182 => ?_)
  refine sm_iload (pc := 185) dX8_pays_185 2 rfl ?_
  refine sm_aJ (pc := 187) dX8_pays_187 (fun v187 => ?_)
  refine sm_ladd (pc := 188) dX8_pays_188 ?_
  refine sm_callVV (pc := 189) [.int x1, .int ((10 : Int32) + x6), .long (r178 + v187)] (fun lq rq Sq hq => m_X8_sets Z lq x0 x1 ((10 : Int32) + x6) (r178 + v187) S178 hq) dX8_pays_189 mi_X8_sets ml_RX8_160 ⟨Nat.le_of_ble_eq_true rfl, Nat.le_of_ble_eq_true rfl, rfl, rfl⟩ rfl (by decide) rfl (Nat.le_of_ble_eq_true rfl) rfl (fun _ S189 => ?_)
  refine sm_iinc (pc := 192) (x6 + 1) (lv' := [(6, .int (x6 + 1)), (0, .ref x0), (1, .int x1)]) dX8_pays_192 2 rfl rfl (by decide) rfl ?_
  refine sm_goto 158 (pc := 195) dX8_pays_195 rfl ?_
  refine sm_sub [1, 2, 0] rfl ?_
  exact h158 x0 x1 (x6 + 1) S189
set_option maxRecDepth 20000 in
set_option maxHeartbeats 4000000 in
theorem sL_X8_pays_158 (Z : ZT)  (n : Nat) : ∀ (x0 : Nat) (x1 : Int32) (x6 : Int32)  (S : St), Sim eV Z rm_X8_pays RX8 cX8_pays 9 none 158 [(0, .ref x0), (1, .int x1), (6, .int x6)] [] S (L_X8_pays_158  n x0 x1 x6 S) := by
  induction n with
  | zero => intros; exact sm_none
  | succ n ih => intro x0 x1 x6 S; exact sB_X8_pays_158 Z  (L_X8_pays_158  n) ih x0 x1 x6 S
set_option maxRecDepth 20000 in
set_option maxHeartbeats 4000000 in
theorem sJ_X8_pays_125 (Z : ZT)  (x0 : Nat) (x1 : Int32) (x4 : Int64)  (S : St) : Sim eV Z rm_X8_pays RX8 cX8_pays 9 none 125 [(0, .ref x0), (1, .int x1), (4, .long x4)] [] S (J_X8_pays_125  x0 x1 x4 S) := by
  unfold J_X8_pays_125
  refine sm_aload_n (pc := 125) dX8_pays_125 rfl 0 rfl ?_
  refine sm_getR (pc := 126) dX8_pays_126 fr_RX8_35 (by decide) rfl (fun v126 => ?_)
  refine sm_iconst (pc := 129) (3 : Int32) dX8_pays_129 (by decide) ?_
  refine sm_aload_n (pc := 130) dX8_pays_130 rfl 0 rfl ?_
  refine sm_iload_n (pc := 131) dX8_pays_131 rfl 1 rfl ?_
  refine sm_bipush (pc := 132) (8 : Int32) dX8_pays_132 (by decide) ?_
  refine sm_lload (pc := 134) dX8_pays_134 2 rfl ?_
  refine sm_callVL (pc := 136) [.int x1, .int (8 : Int32), .long x4] (fun lq rq Sq hq => m_X8_paidOff Z lq x0 x1 (8 : Int32) x4 S hq) dX8_pays_136 mi_X8_paidOff ml_RX8_187 ⟨Nat.le_of_ble_eq_true rfl, Nat.le_of_ble_eq_true rfl, rfl, rfl⟩ rfl (by decide) rfl (Nat.le_of_ble_eq_true rfl) rfl (fun r136 S136 => ?_)
  refine sm_sJ (pc := 139) dX8_pays_139 (fun S139 => ?_)
  refine sm_aload_n (pc := 140) dX8_pays_140 rfl 0 rfl ?_
  refine sm_getR (pc := 141) dX8_pays_141 fr_RX8_35 (by decide) rfl (fun v141 => ?_)
  refine sm_iconst (pc := 144) (4 : Int32) dX8_pays_144 (by decide) ?_
  refine sm_lload (pc := 145) dX8_pays_145 2 rfl ?_
  refine sm_aload_n (pc := 147) dX8_pays_147 rfl 0 rfl ?_
  refine sm_getR (pc := 148) dX8_pays_148 fr_RX8_35 (by decide) rfl (fun v148 => ?_)
  refine sm_iconst (pc := 151) (3 : Int32) dX8_pays_151 (by decide) ?_
  refine sm_aJ (pc := 152) dX8_pays_152 (fun v152 => ?_)
  refine sm_lsub (pc := 153) dX8_pays_153 ?_
  refine sm_sJ (pc := 154) dX8_pays_154 (fun S154 => ?_)
  refine sm_iconst (pc := 155) (0 : Int32) dX8_pays_155 (by decide) ?_
  refine sm_istore (pc := 156) (lv' := [(6, .int (0 : Int32)), (0, .ref x0), (1, .int x1), (4, .long x4)]) dX8_pays_156 (by decide) rfl ?_
  refine sm_sub [1, 2, 0] rfl ?_
  exact sL_X8_pays_158 Z  6000 x0 x1 (0 : Int32) S154
set_option maxRecDepth 20000 in
set_option maxHeartbeats 4000000 in
theorem sB_X8_pays_49 (Z : ZT) (rec27 : (Nat → Int32 → Int64 → St → Option (Unit × St))) (h27 : ∀ (x0 : Nat) (x1 : Int32) (x4 : Int64)  (S : St), Sim eV Z rm_X8_pays RX8 cX8_pays 9 none 27 [(0, .ref x0), (1, .int x1), (4, .long x4)] [] S (rec27 x0 x1 x4 S)) (rec49 : (Nat → Int32 → Int64 → Int32 → St → Option (Unit × St))) (h49 : ∀ (x0 : Nat) (x1 : Int32) (x4 : Int64) (x6 : Int32)  (S : St), Sim eV Z rm_X8_pays RX8 cX8_pays 9 none 49 [(0, .ref x0), (1, .int x1), (4, .long x4), (6, .int x6)] [] S (rec49 x0 x1 x4 x6 S)) (x0 : Nat) (x1 : Int32) (x4 : Int64) (x6 : Int32)  (S : St) : Sim eV Z rm_X8_pays RX8 cX8_pays 9 none 49 [(0, .ref x0), (1, .int x1), (4, .long x4), (6, .int x6)] [] S (B_X8_pays_49 rec27 rec49 x0 x1 x4 x6 S) := by
  unfold B_X8_pays_49
  refine sm_iload (pc := 49) dX8_pays_49 3 rfl ?_
  refine sm_iconst (pc := 51) (3 : Int32) dX8_pays_51 (by decide) ?_
  refine sm_icmp_ge 103 (pc := 52) dX8_pays_52 rfl ?_ ?_
  · refine sm_aload_n (pc := 103) dX8_pays_103 rfl 0 rfl ?_
    refine sm_iload_n (pc := 104) dX8_pays_104 rfl 1 rfl ?_
    refine sm_iconst (pc := 105) (0 : Int32) dX8_pays_105 (by decide) ?_
    refine sm_callVL (pc := 106) [.int x1, .int (0 : Int32)] (fun lq rq Sq hq => m_X8_asks Z lq x0 x1 (0 : Int32) S hq) dX8_pays_106 mi_X8_asks ml_RX8_191 ⟨Nat.le_of_ble_eq_true rfl, Nat.le_of_ble_eq_true rfl, rfl, rfl⟩ rfl (by decide) rfl (Nat.le_of_ble_eq_true rfl) rfl (fun r106 S106 => ?_)
    refine sm_lconst (pc := 109) (0 : Int64) dX8_pays_109 (by decide) ?_
    refine sm_lcmp_le 117 (pc := 110) dX8_pays_110 dX8_pays_111 rfl ?_ ?_
    · refine sm_aload_n (pc := 117) dX8_pays_117 rfl 0 rfl ?_
      refine sm_iload_n (pc := 118) dX8_pays_118 rfl 1 rfl ?_
      refine sm_callVV (pc := 119) [.int x1] (fun lq rq Sq hq => m_X8_firstGoes Z lq x0 x1 S106 hq) dX8_pays_119 mi_X8_firstGoes ml_RX8_194 ⟨Nat.le_of_ble_eq_true rfl, Nat.le_of_ble_eq_true rfl, rfl, rfl⟩ rfl (by decide) rfl (Nat.le_of_ble_eq_true rfl) rfl (fun _ S119 => ?_)
      refine sm_goto 27 (pc := 122) dX8_pays_122 rfl ?_
      refine sm_sub [0, 1, 2] rfl ?_
      exact h27 x0 x1 x4 S119
    refine sm_goto 125 (pc := 114) dX8_pays_114 rfl ?_
    refine sm_sub [0, 1, 2] rfl ?_
    exact sJ_X8_pays_125 Z  x0 x1 x4 S106
  refine sm_aload_n (pc := 55) dX8_pays_55 rfl 0 rfl ?_
  refine sm_iload_n (pc := 56) dX8_pays_56 rfl 1 rfl ?_
  refine sm_bipush (pc := 57) (15 : Int32) dX8_pays_57 (by decide) ?_
  refine sm_iload (pc := 59) dX8_pays_59 3 rfl ?_
  refine sm_if_ne 68 (pc := 61) dX8_pays_61 rfl ?_ ?_
  · refine sm_iload (pc := 68) dX8_pays_68 3 rfl ?_
    refine sm_sub [0, 1, 2, 3] rfl ?_
    exact sJ_X8_pays_70 Z rec27 h27 rec49 h49 x0 x1 x4 x6 x6 (15 : Int32) x1 x0 S
  refine sm_iconst (pc := 64) (3 : Int32) dX8_pays_64 (by decide) ?_
  refine sm_goto 70 (pc := 65) dX8_pays_65 rfl ?_
  refine sm_sub [0, 1, 2, 3] rfl ?_
  exact sJ_X8_pays_70 Z rec27 h27 rec49 h49 x0 x1 x4 x6 (3 : Int32) (15 : Int32) x1 x0 S
set_option maxRecDepth 20000 in
set_option maxHeartbeats 4000000 in
theorem sL_X8_pays_49 (Z : ZT) (rec27 : (Nat → Int32 → Int64 → St → Option (Unit × St))) (h27 : ∀ (x0 : Nat) (x1 : Int32) (x4 : Int64)  (S : St), Sim eV Z rm_X8_pays RX8 cX8_pays 9 none 27 [(0, .ref x0), (1, .int x1), (4, .long x4)] [] S (rec27 x0 x1 x4 S)) (n : Nat) : ∀ (x0 : Nat) (x1 : Int32) (x4 : Int64) (x6 : Int32)  (S : St), Sim eV Z rm_X8_pays RX8 cX8_pays 9 none 49 [(0, .ref x0), (1, .int x1), (4, .long x4), (6, .int x6)] [] S (L_X8_pays_49 rec27 n x0 x1 x4 x6 S) := by
  induction n with
  | zero => intros; exact sm_none
  | succ n ih => intro x0 x1 x4 x6 S; exact sB_X8_pays_49 Z rec27 h27 (L_X8_pays_49 rec27 n) ih x0 x1 x4 x6 S
set_option maxRecDepth 20000 in
set_option maxHeartbeats 4000000 in
theorem sB_X8_pays_27 (Z : ZT) (rec27 : (Nat → Int32 → Int64 → St → Option (Unit × St))) (h27 : ∀ (x0 : Nat) (x1 : Int32) (x4 : Int64)  (S : St), Sim eV Z rm_X8_pays RX8 cX8_pays 9 none 27 [(0, .ref x0), (1, .int x1), (4, .long x4)] [] S (rec27 x0 x1 x4 S)) (x0 : Nat) (x1 : Int32) (x4 : Int64)  (S : St) : Sim eV Z rm_X8_pays RX8 cX8_pays 9 none 27 [(0, .ref x0), (1, .int x1), (4, .long x4)] [] S (B_X8_pays_27 rec27 x0 x1 x4 S) := by
  unfold B_X8_pays_27
  refine sm_lload (pc := 27) dX8_pays_27 2 rfl ?_
  refine sm_lconst (pc := 29) (0 : Int64) dX8_pays_29 (by decide) ?_
  refine sm_lcmp_le 125 (pc := 30) dX8_pays_30 dX8_pays_31 rfl ?_ ?_
  · refine sm_sub [0, 1, 2] rfl ?_
    exact sJ_X8_pays_125 Z  x0 x1 x4 S
  refine sm_aload_n (pc := 34) dX8_pays_34 rfl 0 rfl ?_
  refine sm_iload_n (pc := 35) dX8_pays_35 rfl 1 rfl ?_
  refine sm_bipush (pc := 36) (14 : Int32) dX8_pays_36 (by decide) ?_
  refine sm_callVL (pc := 38) [.int x1, .int (14 : Int32)] (fun lq rq Sq hq => m_X8_at Z lq x0 x1 (14 : Int32) S hq) dX8_pays_38 mi_X8_at ml_RX8_136 ⟨Nat.le_of_ble_eq_true rfl, Nat.le_of_ble_eq_true rfl, rfl, rfl⟩ rfl (by decide) rfl (Nat.le_of_ble_eq_true rfl) rfl (fun r38 S38 => ?_)
  refine sm_lconst (pc := 41) (0 : Int64) dX8_pays_41 (by decide) ?_
  refine sm_lcmp_le 125 (pc := 42) dX8_pays_42 dX8_pays_43 rfl ?_ ?_
  · refine sm_sub [0, 1, 2] rfl ?_
    exact sJ_X8_pays_125 Z  x0 x1 x4 S38
  refine sm_iconst (pc := 46) (0 : Int32) dX8_pays_46 (by decide) ?_
  refine sm_istore (pc := 47) (lv' := [(6, .int (0 : Int32)), (0, .ref x0), (1, .int x1), (4, .long x4)]) dX8_pays_47 (by decide) rfl ?_
  refine sm_sub [1, 2, 3, 0] rfl ?_
  exact sL_X8_pays_49 Z rec27 h27 6000 x0 x1 x4 (0 : Int32) S38
set_option maxRecDepth 20000 in
set_option maxHeartbeats 4000000 in
theorem sL_X8_pays_27 (Z : ZT)  (n : Nat) : ∀ (x0 : Nat) (x1 : Int32) (x4 : Int64)  (S : St), Sim eV Z rm_X8_pays RX8 cX8_pays 9 none 27 [(0, .ref x0), (1, .int x1), (4, .long x4)] [] S (L_X8_pays_27  n x0 x1 x4 S) := by
  induction n with
  | zero => intros; exact sm_none
  | succ n ih => intro x0 x1 x4 S; exact sB_X8_pays_27 Z  (L_X8_pays_27  n) ih x0 x1 x4 S
set_option maxRecDepth 20000 in
set_option maxHeartbeats 4000000 in
theorem sB_X8_pays_6 (Z : ZT) (rec6 : (Nat → Int32 → Int64 → Int32 → St → Option (Unit × St))) (h6 : ∀ (x0 : Nat) (x1 : Int32) (x4 : Int64) (x6 : Int32)  (S : St), Sim eV Z rm_X8_pays RX8 cX8_pays 9 none 6 [(0, .ref x0), (1, .int x1), (4, .long x4), (6, .int x6)] [] S (rec6 x0 x1 x4 x6 S)) (x0 : Nat) (x1 : Int32) (x4 : Int64) (x6 : Int32)  (S : St) : Sim eV Z rm_X8_pays RX8 cX8_pays 9 none 6 [(0, .ref x0), (1, .int x1), (4, .long x4), (6, .int x6)] [] S (B_X8_pays_6 rec6 x0 x1 x4 x6 S) := by
  unfold B_X8_pays_6
  refine sm_iload (pc := 6) dX8_pays_6 3 rfl ?_
  refine sm_bipush (pc := 8) (6 : Int32) dX8_pays_8 (by decide) ?_
  refine sm_icmp_ge 27 (pc := 10) dX8_pays_10 rfl ?_ ?_
  · refine sm_sub [0, 1, 2] rfl ?_
    exact sL_X8_pays_27 Z  6000 x0 x1 x4 S
  refine sm_aload_n (pc := 13) dX8_pays_13 rfl 0 rfl ?_
  refine sm_getR (pc := 14) dX8_pays_14 fr_RX8_35 (by decide) rfl (fun v14 => ?_)
  refine sm_iload (pc := 17) dX8_pays_17 3 rfl ?_
  refine sm_lconst (pc := 19) (0 : Int64) dX8_pays_19 (by decide) ?_
  refine sm_sJ (pc := 20) dX8_pays_20 (fun S20 => ?_)
  refine sm_iinc (pc := 21) (x6 + 1) (lv' := [(6, .int (x6 + 1)), (0, .ref x0), (1, .int x1), (4, .long x4)]) dX8_pays_21 3 rfl rfl (by decide) rfl ?_
  refine sm_goto 6 (pc := 24) dX8_pays_24 rfl ?_
  refine sm_sub [1, 2, 3, 0] rfl ?_
  exact h6 x0 x1 x4 (x6 + 1) S20
set_option maxRecDepth 20000 in
set_option maxHeartbeats 4000000 in
theorem sL_X8_pays_6 (Z : ZT)  (n : Nat) : ∀ (x0 : Nat) (x1 : Int32) (x4 : Int64) (x6 : Int32)  (S : St), Sim eV Z rm_X8_pays RX8 cX8_pays 9 none 6 [(0, .ref x0), (1, .int x1), (4, .long x4), (6, .int x6)] [] S (L_X8_pays_6  n x0 x1 x4 x6 S) := by
  induction n with
  | zero => intros; exact sm_none
  | succ n ih => intro x0 x1 x4 x6 S; exact sB_X8_pays_6 Z  (L_X8_pays_6  n) ih x0 x1 x4 x6 S
set_option maxRecDepth 20000 in
set_option maxHeartbeats 4000000 in
theorem s_X8_pays (Z : ZT) (c : Nat) (a1 : Int32) (a2 : Int64) (S : St) : Sim eV Z rm_X8_pays RX8 cX8_pays 9 none 0 [(0, .ref c), (1, .int a1), (2, .long a2)] [] S (F_X8_pays c a1 a2 S) := by
  unfold F_X8_pays
  refine sm_lload_n (pc := 0) dX8_pays_0 rfl 2 rfl ?_
  refine sm_lstore (pc := 1) (lv' := [(4, .long a2), (0, .ref c), (1, .int a1), (2, .long a2)]) dX8_pays_1 (by decide) rfl ?_
  refine sm_iconst (pc := 3) (0 : Int32) dX8_pays_3 (by decide) ?_
  refine sm_istore (pc := 4) (lv' := [(6, .int (0 : Int32)), (4, .long a2), (0, .ref c), (1, .int a1), (2, .long a2)]) dX8_pays_4 (by decide) rfl ?_
  refine sm_sub [2, 3, 1, 0] rfl ?_
  exact sL_X8_pays_6 Z  6000 c a1 a2 (0 : Int32) S
set_option maxRecDepth 20000 in
set_option maxHeartbeats 4000000 in
theorem m_X8_pays (Z : ZT) (l : Launch) (c : Nat) (a1 : Int32) (a2 : Int64) (S : St) {r : Unit} {S' : St} (h : F_X8_pays c a1 a2 S = some (r, S')) : MetX Z l yX8_pays cX8_pays 9 none rm_X8_pays [.ref c, .int a1, .long a2] S (eV r) S' := Sim.met (by decide +kernel) rfl (Nat.le_of_ble_eq_true rfl) (s_X8_pays Z c a1 a2 S) l h
set_option maxRecDepth 20000 in
set_option maxHeartbeats 4000000 in
theorem sJ_X8_isPaid_24 (Z : ZT)   (t0 : Int32) (S : St) : Sim eI Z rm_X8_isPaid RX8 cX8_isPaid 4 (some .boolean) 24 [] [.int t0] S (J_X8_isPaid_24  t0 S) := by
  unfold J_X8_isPaid_24
  exact sm_retZ (pc := 24) dX8_isPaid_24
set_option maxRecDepth 20000 in
set_option maxHeartbeats 4000000 in
theorem sJ_X8_isPaid_23 (Z : ZT)    (S : St) : Sim eI Z rm_X8_isPaid RX8 cX8_isPaid 4 (some .boolean) 23 [] [] S (J_X8_isPaid_23  S) := by
  unfold J_X8_isPaid_23
  refine sm_iconst (pc := 23) (0 : Int32) dX8_isPaid_23 (by decide) ?_
  refine sm_sub [] rfl ?_
  exact sJ_X8_isPaid_24 Z  (0 : Int32) S
set_option maxRecDepth 20000 in
set_option maxHeartbeats 4000000 in
theorem s_X8_isPaid (Z : ZT) (c : Nat) (a1 : Int32) (a2 : Int64) (S : St) : Sim eI Z rm_X8_isPaid RX8 cX8_isPaid 4 (some .boolean) 0 [(0, .ref c), (1, .int a1), (2, .long a2)] [] S (F_X8_isPaid c a1 a2 S) := by
  unfold F_X8_isPaid
  refine sm_aload_n (pc := 0) dX8_isPaid_0 rfl 0 rfl ?_
  refine sm_iload_n (pc := 1) dX8_isPaid_1 rfl 1 rfl ?_
  refine sm_callVI (pc := 2) [.int a1] (fun lq rq Sq hq => m_X8_isLoan Z lq c a1 S hq) dX8_isPaid_2 mi_X8_isLoan ml_RX8_197 ⟨Nat.le_of_ble_eq_true rfl, Nat.le_of_ble_eq_true rfl, rfl, rfl⟩ rfl (by decide) rfl (Nat.le_of_ble_eq_true rfl) rfl (fun r2 S2 => ?_)
  refine sm_if_eq 23 (pc := 5) dX8_isPaid_5 rfl ?_ ?_
  · refine sm_sub [] rfl ?_
    exact sJ_X8_isPaid_23 Z  S2
  refine sm_lload_n (pc := 8) dX8_isPaid_8 rfl 2 rfl ?_
  refine sm_lconst (pc := 9) (1 : Int64) dX8_isPaid_9 (by decide) ?_
  refine sm_ldc2 (pc := 10) (1000000000 : Int64) dX8_isPaid_10 kc_RX8_200 ?_
  refine sm_callSI (pc := 13) [.long a2, .long (1 : Int64), .long (1000000000 : Int64)] (fun lq rq Sq hq => m_X8_in Z lq a2 (1 : Int64) (1000000000 : Int64) S2 hq) dX8_isPaid_13 mi_X8_in ml_RX8_85 ⟨Nat.le_of_ble_eq_true rfl, Nat.le_of_ble_eq_true rfl, rfl, rfl⟩ rfl (Nat.le_of_ble_eq_true rfl) rfl (fun r13 S13 => ?_)
  refine sm_if_eq 23 (pc := 16) dX8_isPaid_16 rfl ?_ ?_
  · refine sm_sub [] rfl ?_
    exact sJ_X8_isPaid_23 Z  S13
  refine sm_iconst (pc := 19) (1 : Int32) dX8_isPaid_19 (by decide) ?_
  refine sm_goto 24 (pc := 20) dX8_isPaid_20 rfl ?_
  refine sm_sub [] rfl ?_
  exact sJ_X8_isPaid_24 Z  (1 : Int32) S13
set_option maxRecDepth 20000 in
set_option maxHeartbeats 4000000 in
theorem m_X8_isPaid (Z : ZT) (l : Launch) (c : Nat) (a1 : Int32) (a2 : Int64) (S : St) {r : Int32} {S' : St} (h : F_X8_isPaid c a1 a2 S = some (r, S')) : MetX Z l yX8_isPaid cX8_isPaid 4 (some .boolean) rm_X8_isPaid [.ref c, .int a1, .long a2] S (eI r) S' := Sim.met (by decide +kernel) rfl (Nat.le_of_ble_eq_true rfl) (s_X8_isPaid Z c a1 a2 S) l h
set_option maxRecDepth 20000 in
set_option maxHeartbeats 4000000 in
theorem s_X8_pay (Z : ZT) (c : Nat) (a1 : Int32) (a2 : Int64) (S : St) : Sim eL Z rm_X8_pay RX8 cX8_pay 4 (some .long) 0 [(0, .ref c), (1, .int a1), (2, .long a2)] [] S (F_X8_pay c a1 a2 S) := by
  unfold F_X8_pay
  refine sm_aload_n (pc := 0) dX8_pay_0 rfl 0 rfl ?_
  refine sm_iload_n (pc := 1) dX8_pay_1 rfl 1 rfl ?_
  refine sm_lload_n (pc := 2) dX8_pay_2 rfl 2 rfl ?_
  refine sm_callVI (pc := 3) [.int a1, .long a2] (fun lq rq Sq hq => m_X8_isPaid Z lq c a1 a2 S hq) dX8_pay_3 mi_X8_isPaid ml_RX8_202 ⟨Nat.le_of_ble_eq_true rfl, Nat.le_of_ble_eq_true rfl, rfl, rfl⟩ rfl (by decide) rfl (Nat.le_of_ble_eq_true rfl) rfl (fun r3 S3 => ?_)
  refine sm_if_ne 13 (pc := 6) dX8_pay_6 rfl ?_ ?_
  · refine sm_aload_n (pc := 13) dX8_pay_13 rfl 0 rfl ?_
    refine sm_iload_n (pc := 14) dX8_pay_14 rfl 1 rfl ?_
    refine sm_lload_n (pc := 15) dX8_pay_15 rfl 2 rfl ?_
    refine sm_callVV (pc := 16) [.int a1, .long a2] (fun lq rq Sq hq => m_X8_pays Z lq c a1 a2 S3 hq) dX8_pay_16 mi_X8_pays ml_RX8_205 ⟨Nat.le_of_ble_eq_true rfl, Nat.le_of_ble_eq_true rfl, rfl, rfl⟩ rfl (by decide) rfl (Nat.le_of_ble_eq_true rfl) rfl (fun _ S16 => ?_)
    refine sm_aload_n (pc := 19) dX8_pay_19 rfl 0 rfl ?_
    refine sm_getR (pc := 20) dX8_pay_20 fr_RX8_35 (by decide) rfl (fun v20 => ?_)
    refine sm_iconst (pc := 23) (4 : Int32) dX8_pay_23 (by decide) ?_
    refine sm_aJ (pc := 24) dX8_pay_24 (fun v24 => ?_)
    exact sm_retL (pc := 25) dX8_pay_25
  refine sm_ldc2 (pc := 9) (-1 : Int64) dX8_pay_9 kc_RX8_134 ?_
  exact sm_retL (pc := 12) dX8_pay_12
set_option maxRecDepth 20000 in
set_option maxHeartbeats 4000000 in
theorem m_X8_pay (Z : ZT) (l : Launch) (c : Nat) (a1 : Int32) (a2 : Int64) (S : St) {r : Int64} {S' : St} (h : F_X8_pay c a1 a2 S = some (r, S')) : MetX Z l yX8_pay cX8_pay 4 (some .long) rm_X8_pay [.ref c, .int a1, .long a2] S (eL r) S' := Sim.met (by decide +kernel) rfl (Nat.le_of_ble_eq_true rfl) (s_X8_pay Z c a1 a2 S) l h
set_option maxRecDepth 20000 in
set_option maxHeartbeats 4000000 in
theorem sJ_X8_reset_20 (Z : ZT)    (S : St) : Sim eL Z rm_X8_reset RX8 cX8_reset 3 (some .long) 20 [] [] S (J_X8_reset_20  S) := by
  unfold J_X8_reset_20
  refine sm_ldc2 (pc := 20) (-1 : Int64) dX8_reset_20 kc_RX8_134 ?_
  exact sm_retL (pc := 23) dX8_reset_23
set_option maxRecDepth 20000 in
set_option maxHeartbeats 4000000 in
theorem s_X8_reset (Z : ZT) (c : Nat) (a1 : Int32) (a2 : Int32) (S : St) : Sim eL Z rm_X8_reset RX8 cX8_reset 3 (some .long) 0 [(0, .ref c), (1, .int a1), (2, .int a2)] [] S (F_X8_reset c a1 a2 S) := by
  unfold F_X8_reset
  refine sm_aload_n (pc := 0) dX8_reset_0 rfl 0 rfl ?_
  refine sm_iload_n (pc := 1) dX8_reset_1 rfl 1 rfl ?_
  refine sm_callVI (pc := 2) [.int a1] (fun lq rq Sq hq => m_X8_isLoan Z lq c a1 S hq) dX8_reset_2 mi_X8_isLoan ml_RX8_197 ⟨Nat.le_of_ble_eq_true rfl, Nat.le_of_ble_eq_true rfl, rfl, rfl⟩ rfl (by decide) rfl (Nat.le_of_ble_eq_true rfl) rfl (fun r2 S2 => ?_)
  refine sm_if_eq 20 (pc := 5) dX8_reset_5 rfl ?_ ?_
  · refine sm_sub [] rfl ?_
    exact sJ_X8_reset_20 Z  S2
  refine sm_iload_n (pc := 8) dX8_reset_8 rfl 2 rfl ?_
  refine sm_i2l (pc := 9) dX8_reset_9 ?_
  refine sm_lconst (pc := 10) (0 : Int64) dX8_reset_10 (by decide) ?_
  refine sm_ldc2 (pc := 11) (5000 : Int64) dX8_reset_11 kc_RX8_128 ?_
  refine sm_callSI (pc := 14) [.long (Int32.toInt64 a2), .long (0 : Int64), .long (5000 : Int64)] (fun lq rq Sq hq => m_X8_in Z lq (Int32.toInt64 a2) (0 : Int64) (5000 : Int64) S2 hq) dX8_reset_14 mi_X8_in ml_RX8_85 ⟨Nat.le_of_ble_eq_true rfl, Nat.le_of_ble_eq_true rfl, rfl, rfl⟩ rfl (Nat.le_of_ble_eq_true rfl) rfl (fun r14 S14 => ?_)
  refine sm_if_ne 24 (pc := 17) dX8_reset_17 rfl ?_ ?_
  · refine sm_aload_n (pc := 24) dX8_reset_24 rfl 0 rfl ?_
    refine sm_iload_n (pc := 25) dX8_reset_25 rfl 1 rfl ?_
    refine sm_iconst (pc := 26) (1 : Int32) dX8_reset_26 (by decide) ?_
    refine sm_iload_n (pc := 27) dX8_reset_27 rfl 2 rfl ?_
    refine sm_i2l (pc := 28) dX8_reset_28 ?_
    refine sm_callVV (pc := 29) [.int a1, .int (1 : Int32), .long (Int32.toInt64 a2)] (fun lq rq Sq hq => m_X8_sets Z lq c a1 (1 : Int32) (Int32.toInt64 a2) S14 hq) dX8_reset_29 mi_X8_sets ml_RX8_160 ⟨Nat.le_of_ble_eq_true rfl, Nat.le_of_ble_eq_true rfl, rfl, rfl⟩ rfl (by decide) rfl (Nat.le_of_ble_eq_true rfl) rfl (fun _ S29 => ?_)
    refine sm_aload_n (pc := 32) dX8_reset_32 rfl 0 rfl ?_
    refine sm_iload_n (pc := 33) dX8_reset_33 rfl 1 rfl ?_
    refine sm_callVV (pc := 34) [.int a1] (fun lq rq Sq hq => m_X8_level Z lq c a1 S29 hq) dX8_reset_34 mi_X8_level ml_RX8_171 ⟨Nat.le_of_ble_eq_true rfl, Nat.le_of_ble_eq_true rfl, rfl, rfl⟩ rfl (by decide) rfl (Nat.le_of_ble_eq_true rfl) rfl (fun _ S34 => ?_)
    refine sm_aload_n (pc := 37) dX8_reset_37 rfl 0 rfl ?_
    refine sm_iload_n (pc := 38) dX8_reset_38 rfl 1 rfl ?_
    refine sm_bipush (pc := 39) (9 : Int32) dX8_reset_39 (by decide) ?_
    refine sm_callVL (pc := 41) [.int a1, .int (9 : Int32)] (fun lq rq Sq hq => m_X8_at Z lq c a1 (9 : Int32) S34 hq) dX8_reset_41 mi_X8_at ml_RX8_136 ⟨Nat.le_of_ble_eq_true rfl, Nat.le_of_ble_eq_true rfl, rfl, rfl⟩ rfl (by decide) rfl (Nat.le_of_ble_eq_true rfl) rfl (fun r41 S41 => ?_)
    exact sm_retL (pc := 44) dX8_reset_44
  refine sm_sub [] rfl ?_
  exact sJ_X8_reset_20 Z  S14
set_option maxRecDepth 20000 in
set_option maxHeartbeats 4000000 in
theorem m_X8_reset (Z : ZT) (l : Launch) (c : Nat) (a1 : Int32) (a2 : Int32) (S : St) {r : Int64} {S' : St} (h : F_X8_reset c a1 a2 S = some (r, S')) : MetX Z l yX8_reset cX8_reset 3 (some .long) rm_X8_reset [.ref c, .int a1, .int a2] S (eL r) S' := Sim.met (by decide +kernel) rfl (Nat.le_of_ble_eq_true rfl) (s_X8_reset Z c a1 a2 S) l h
set_option maxRecDepth 20000 in
set_option maxHeartbeats 4000000 in
theorem sB_X8_writeOff_51 (Z : ZT) (rec51 : (Nat → Int32 → Int64 → Int32 → St → Option (Int64 × St))) (h51 : ∀ (x0 : Nat) (x1 : Int32) (x2 : Int64) (x4 : Int32)  (S : St), Sim eL Z rm_X8_writeOff RX8 cX8_writeOff 5 (some .long) 51 [(0, .ref x0), (1, .int x1), (2, .long x2), (4, .int x4)] [] S (rec51 x0 x1 x2 x4 S)) (x0 : Nat) (x1 : Int32) (x2 : Int64) (x4 : Int32)  (S : St) : Sim eL Z rm_X8_writeOff RX8 cX8_writeOff 5 (some .long) 51 [(0, .ref x0), (1, .int x1), (2, .long x2), (4, .int x4)] [] S (B_X8_writeOff_51 rec51 x0 x1 x2 x4 S) := by
  unfold B_X8_writeOff_51
  refine sm_iload (pc := 51) dX8_writeOff_51 3 rfl ?_
  refine sm_i2l (pc := 53) dX8_writeOff_53 ?_
  refine sm_aload_n (pc := 54) dX8_writeOff_54 rfl 0 rfl ?_
  refine sm_iload_n (pc := 55) dX8_writeOff_55 rfl 1 rfl ?_
  refine sm_bipush (pc := 56) (14 : Int32) dX8_writeOff_56 (by decide) ?_
  refine sm_callVL (pc := 58) [.int x1, .int (14 : Int32)] (fun lq rq Sq hq => m_X8_at Z lq x0 x1 (14 : Int32) S hq) dX8_writeOff_58 mi_X8_at ml_RX8_136 ⟨Nat.le_of_ble_eq_true rfl, Nat.le_of_ble_eq_true rfl, rfl, rfl⟩ rfl (by decide) rfl (Nat.le_of_ble_eq_true rfl) rfl (fun r58 S58 => ?_)
  refine sm_lcmp_ge 88 (pc := 61) dX8_writeOff_61 dX8_writeOff_62 rfl ?_ ?_
  · refine sm_aload_n (pc := 88) dX8_writeOff_88 rfl 0 rfl ?_
    refine sm_iload_n (pc := 89) dX8_writeOff_89 rfl 1 rfl ?_
    refine sm_bipush (pc := 90) (8 : Int32) dX8_writeOff_90 (by decide) ?_
    refine sm_lconst (pc := 92) (0 : Int64) dX8_writeOff_92 (by decide) ?_
    refine sm_callVV (pc := 93) [.int x1, .int (8 : Int32), .long (0 : Int64)] (fun lq rq Sq hq => m_X8_sets Z lq x0 x1 (8 : Int32) (0 : Int64) S58 hq) dX8_writeOff_93 mi_X8_sets ml_RX8_160 ⟨Nat.le_of_ble_eq_true rfl, Nat.le_of_ble_eq_true rfl, rfl, rfl⟩ rfl (by decide) rfl (Nat.le_of_ble_eq_true rfl) rfl (fun _ S93 => ?_)
    refine sm_aload_n (pc := 96) dX8_writeOff_96 rfl 0 rfl ?_
    refine sm_iload_n (pc := 97) dX8_writeOff_97 rfl 1 rfl ?_
    refine sm_bipush (pc := 98) (14 : Int32) dX8_writeOff_98 (by decide) ?_
    refine sm_lconst (pc := 100) (0 : Int64) dX8_writeOff_100 (by decide) ?_
    refine sm_callVV (pc := 101) [.int x1, .int (14 : Int32), .long (0 : Int64)] (fun lq rq Sq hq => m_X8_sets Z lq x0 x1 (14 : Int32) (0 : Int64) S93 hq) dX8_writeOff_101 mi_X8_sets ml_RX8_160 ⟨Nat.le_of_ble_eq_true rfl, Nat.le_of_ble_eq_true rfl, rfl, rfl⟩ rfl (by decide) rfl (Nat.le_of_ble_eq_true rfl) rfl (fun _ S101 => ?_)
    refine sm_aload_n (pc := 104) dX8_writeOff_104 rfl 0 rfl ?_
    refine sm_iload_n (pc := 105) dX8_writeOff_105 rfl 1 rfl ?_
    refine sm_bipush (pc := 106) (13 : Int32) dX8_writeOff_106 (by decide) ?_
    refine sm_aload_n (pc := 108) dX8_writeOff_108 rfl 0 rfl ?_
    refine sm_iload_n (pc := 109) dX8_writeOff_109 rfl 1 rfl ?_
    refine sm_bipush (pc := 110) (13 : Int32) dX8_writeOff_110 (by decide) ?_
    refine sm_callVL (pc := 112) [.int x1, .int (13 : Int32)] (fun lq rq Sq hq => m_X8_at Z lq x0 x1 (13 : Int32) S101 hq) dX8_writeOff_112 mi_X8_at ml_RX8_136 ⟨Nat.le_of_ble_eq_true rfl, Nat.le_of_ble_eq_true rfl, rfl, rfl⟩ rfl (by decide) rfl (Nat.le_of_ble_eq_true rfl) rfl (fun r112 S112 => ?_)
    refine sm_lload_n (pc := 115) dX8_writeOff_115 rfl 2 rfl ?_
    refine sm_ladd (pc := 116) dX8_writeOff_116 ?_
    refine sm_callVV (pc := 117) [.int x1, .int (13 : Int32), .long (r112 + x2)] (fun lq rq Sq hq => m_X8_sets Z lq x0 x1 (13 : Int32) (r112 + x2) S112 hq) dX8_writeOff_117 mi_X8_sets ml_RX8_160 ⟨Nat.le_of_ble_eq_true rfl, Nat.le_of_ble_eq_true rfl, rfl, rfl⟩ rfl (by decide) rfl (Nat.le_of_ble_eq_true rfl) rfl (fun _ S117 => ?_)
    refine sm_lload_n (pc := 120) dX8_writeOff_120 rfl 2 rfl ?_
    exact sm_retL (pc := 121) dX8_writeOff_121
  refine sm_lload_n (pc := 65) dX8_writeOff_65 rfl 2 rfl ?_
  refine sm_aload_n (pc := 66) dX8_writeOff_66 rfl 0 rfl ?_
  refine sm_iload_n (pc := 67) dX8_writeOff_67 rfl 1 rfl ?_
  refine sm_bipush (pc := 68) (15 : Int32) dX8_writeOff_68 (by decide) ?_
  refine sm_iconst (pc := 70) (5 : Int32) dX8_writeOff_70 (by decide) ?_
  refine sm_iload (pc := 71) dX8_writeOff_71 3 rfl ?_
  refine sm_imul (pc := 73) dX8_writeOff_73 ?_
  refine sm_iadd (pc := 74) dX8_writeOff_74 ?_
  refine sm_iconst (pc := 75) (2 : Int32) dX8_writeOff_75 (by decide) ?_
  refine sm_iadd (pc := 76) dX8_writeOff_76 ?_
  refine sm_callVL (pc := 77) [.int x1, .int (((15 : Int32) + ((5 : Int32) * x4)) + (2 : Int32))] (fun lq rq Sq hq => m_X8_at Z lq x0 x1 (((15 : Int32) + ((5 : Int32) * x4)) + (2 : Int32)) S58 hq) dX8_writeOff_77 mi_X8_at ml_RX8_136 ⟨Nat.le_of_ble_eq_true rfl, Nat.le_of_ble_eq_true rfl, rfl, rfl⟩ rfl (by decide) rfl (Nat.le_of_ble_eq_true rfl) rfl (fun r77 S77 => ?_)
  refine sm_ladd (pc := 80) dX8_writeOff_80 ?_
  refine sm_bdJ (fun v81 => ?_)
  refine sm_lstore_n (pc := 81) (lv' := [(2, .long v81), (0, .ref x0), (1, .int x1), (4, .int x4)]) dX8_writeOff_81 rfl (by decide) rfl ?_
  refine sm_iinc (pc := 82) (x4 + 1) (lv' := [(4, .int (x4 + 1)), (2, .long v81), (0, .ref x0), (1, .int x1)]) dX8_writeOff_82 3 rfl rfl (by decide) rfl ?_
  refine sm_goto 51 (pc := 85) dX8_writeOff_85 rfl ?_
  refine sm_sub [2, 3, 1, 0] rfl ?_
  exact h51 x0 x1 v81 (x4 + 1) S77
set_option maxRecDepth 20000 in
set_option maxHeartbeats 4000000 in
theorem sL_X8_writeOff_51 (Z : ZT)  (n : Nat) : ∀ (x0 : Nat) (x1 : Int32) (x2 : Int64) (x4 : Int32)  (S : St), Sim eL Z rm_X8_writeOff RX8 cX8_writeOff 5 (some .long) 51 [(0, .ref x0), (1, .int x1), (2, .long x2), (4, .int x4)] [] S (L_X8_writeOff_51  n x0 x1 x2 x4 S) := by
  induction n with
  | zero => intros; exact sm_none
  | succ n ih => intro x0 x1 x2 x4 S; exact sB_X8_writeOff_51 Z  (L_X8_writeOff_51  n) ih x0 x1 x2 x4 S
set_option maxRecDepth 20000 in
set_option maxHeartbeats 4000000 in
theorem sJ_X8_writeOff_40 (Z : ZT)  (x0 : Nat) (x1 : Int32)  (S : St) : Sim eL Z rm_X8_writeOff RX8 cX8_writeOff 5 (some .long) 40 [(0, .ref x0), (1, .int x1)] [] S (J_X8_writeOff_40  x0 x1 S) := by
  unfold J_X8_writeOff_40
  refine sm_aload_n (pc := 40) dX8_writeOff_40 rfl 0 rfl ?_
  refine sm_iload_n (pc := 41) dX8_writeOff_41 rfl 1 rfl ?_
  refine sm_bipush (pc := 42) (8 : Int32) dX8_writeOff_42 (by decide) ?_
  refine sm_callVL (pc := 44) [.int x1, .int (8 : Int32)] (fun lq rq Sq hq => m_X8_at Z lq x0 x1 (8 : Int32) S hq) dX8_writeOff_44 mi_X8_at ml_RX8_136 ⟨Nat.le_of_ble_eq_true rfl, Nat.le_of_ble_eq_true rfl, rfl, rfl⟩ rfl (by decide) rfl (Nat.le_of_ble_eq_true rfl) rfl (fun r44 S44 => ?_)
  refine sm_lstore_n (pc := 47) (lv' := [(2, .long r44), (0, .ref x0), (1, .int x1)]) dX8_writeOff_47 rfl (by decide) rfl ?_
  refine sm_iconst (pc := 48) (0 : Int32) dX8_writeOff_48 (by decide) ?_
  refine sm_istore (pc := 49) (lv' := [(4, .int (0 : Int32)), (2, .long r44), (0, .ref x0), (1, .int x1)]) dX8_writeOff_49 (by decide) rfl ?_
  refine sm_sub [2, 3, 1, 0] rfl ?_
  exact sL_X8_writeOff_51 Z  6000 x0 x1 r44 (0 : Int32) S44
set_option maxRecDepth 20000 in
set_option maxHeartbeats 4000000 in
theorem s_X8_writeOff (Z : ZT) (c : Nat) (a1 : Int32) (S : St) : Sim eL Z rm_X8_writeOff RX8 cX8_writeOff 5 (some .long) 0 [(0, .ref c), (1, .int a1)] [] S (F_X8_writeOff c a1 S) := by
  unfold F_X8_writeOff
  refine sm_aload_n (pc := 0) dX8_writeOff_0 rfl 0 rfl ?_
  refine sm_iload_n (pc := 1) dX8_writeOff_1 rfl 1 rfl ?_
  refine sm_callVI (pc := 2) [.int a1] (fun lq rq Sq hq => m_X8_isLoan Z lq c a1 S hq) dX8_writeOff_2 mi_X8_isLoan ml_RX8_197 ⟨Nat.le_of_ble_eq_true rfl, Nat.le_of_ble_eq_true rfl, rfl, rfl⟩ rfl (by decide) rfl (Nat.le_of_ble_eq_true rfl) rfl (fun r2 S2 => ?_)
  refine sm_if_ne 12 (pc := 5) dX8_writeOff_5 rfl ?_ ?_
  · refine sm_aload_n (pc := 12) dX8_writeOff_12 rfl 0 rfl ?_
    refine sm_iload_n (pc := 13) dX8_writeOff_13 rfl 1 rfl ?_
    refine sm_bipush (pc := 14) (8 : Int32) dX8_writeOff_14 (by decide) ?_
    refine sm_callVL (pc := 16) [.int a1, .int (8 : Int32)] (fun lq rq Sq hq => m_X8_at Z lq c a1 (8 : Int32) S2 hq) dX8_writeOff_16 mi_X8_at ml_RX8_136 ⟨Nat.le_of_ble_eq_true rfl, Nat.le_of_ble_eq_true rfl, rfl, rfl⟩ rfl (by decide) rfl (Nat.le_of_ble_eq_true rfl) rfl (fun r16 S16 => ?_)
    refine sm_lconst (pc := 19) (0 : Int64) dX8_writeOff_19 (by decide) ?_
    refine sm_lcmp_ne 40 (pc := 20) dX8_writeOff_20 dX8_writeOff_21 rfl ?_ ?_
    · refine sm_sub [0, 1] rfl ?_
      exact sJ_X8_writeOff_40 Z  c a1 S16
    refine sm_aload_n (pc := 24) dX8_writeOff_24 rfl 0 rfl ?_
    refine sm_iload_n (pc := 25) dX8_writeOff_25 rfl 1 rfl ?_
    refine sm_bipush (pc := 26) (14 : Int32) dX8_writeOff_26 (by decide) ?_
    refine sm_callVL (pc := 28) [.int a1, .int (14 : Int32)] (fun lq rq Sq hq => m_X8_at Z lq c a1 (14 : Int32) S16 hq) dX8_writeOff_28 mi_X8_at ml_RX8_136 ⟨Nat.le_of_ble_eq_true rfl, Nat.le_of_ble_eq_true rfl, rfl, rfl⟩ rfl (by decide) rfl (Nat.le_of_ble_eq_true rfl) rfl (fun r28 S28 => ?_)
    refine sm_lconst (pc := 31) (0 : Int64) dX8_writeOff_31 (by decide) ?_
    refine sm_lcmp_ne 40 (pc := 32) dX8_writeOff_32 dX8_writeOff_33 rfl ?_ ?_
    · refine sm_sub [0, 1] rfl ?_
      exact sJ_X8_writeOff_40 Z  c a1 S28
    refine sm_ldc2 (pc := 36) (-5 : Int64) dX8_writeOff_36 kc_RX8_209 ?_
    exact sm_retL (pc := 39) dX8_writeOff_39
  refine sm_ldc2 (pc := 8) (-1 : Int64) dX8_writeOff_8 kc_RX8_134 ?_
  exact sm_retL (pc := 11) dX8_writeOff_11
set_option maxRecDepth 20000 in
set_option maxHeartbeats 4000000 in
theorem m_X8_writeOff (Z : ZT) (l : Launch) (c : Nat) (a1 : Int32) (S : St) {r : Int64} {S' : St} (h : F_X8_writeOff c a1 S = some (r, S')) : MetX Z l yX8_writeOff cX8_writeOff 5 (some .long) rm_X8_writeOff [.ref c, .int a1] S (eL r) S' := Sim.met (by decide +kernel) rfl (Nat.le_of_ble_eq_true rfl) (s_X8_writeOff Z c a1 S) l h
set_option maxRecDepth 20000 in
set_option maxHeartbeats 4000000 in
theorem sJ_X8_rule_32 (Z : ZT)    (S : St) : Sim eI Z rm_X8_rule RX8 cX8_rule 4 (some .int) 32 [] [] S (J_X8_rule_32  S) := by
  unfold J_X8_rule_32
  refine sm_iconst (pc := 32) (-1 : Int32) dX8_rule_32 (by decide) ?_
  exact sm_retI (pc := 33) dX8_rule_33
set_option maxRecDepth 20000 in
set_option maxHeartbeats 4000000 in
theorem sJ_X8_rule_26 (Z : ZT)  (x0 : Nat) (x1 : Int32) (x2 : Int32) (t0 : Int64) (t1 : Int64) (t2 : Int64) (S : St) : Sim eI Z rm_X8_rule RX8 cX8_rule 4 (some .int) 26 [(0, .ref x0), (1, .int x1), (2, .int x2)] [.long t0, .long t1, .long t2] S (J_X8_rule_26  x0 x1 x2 t0 t1 t2 S) := by
  unfold J_X8_rule_26
  refine sm_callSI (pc := 26) [.long t2, .long t1, .long t0] (fun lq rq Sq hq => m_X8_in Z lq t2 t1 t0 S hq) dX8_rule_26 mi_X8_in ml_RX8_85 ⟨Nat.le_of_ble_eq_true rfl, Nat.le_of_ble_eq_true rfl, rfl, rfl⟩ rfl (Nat.le_of_ble_eq_true rfl) rfl (fun r26 S26 => ?_)
  refine sm_if_ne 34 (pc := 29) dX8_rule_29 rfl ?_ ?_
  · refine sm_aload_n (pc := 34) dX8_rule_34 rfl 0 rfl ?_
    refine sm_getR (pc := 35) dX8_rule_35 fr_RX8_9 (by decide) rfl (fun v35 => ?_)
    refine sm_sipush (pc := 38) (2522 : Int32) dX8_rule_38 (by decide) ?_
    refine sm_iload_n (pc := 41) dX8_rule_41 rfl 1 rfl ?_
    refine sm_iadd (pc := 42) dX8_rule_42 ?_
    refine sm_aJ (pc := 43) dX8_rule_43 (fun v43 => ?_)
    refine sm_l2i (pc := 44) dX8_rule_44 ?_
    refine sm_bdI (fun v45 => ?_)
    refine sm_istore_n (pc := 45) (lv' := [(3, .int v45), (0, .ref x0), (1, .int x1), (2, .int x2)]) dX8_rule_45 rfl (by decide) rfl ?_
    refine sm_aload_n (pc := 46) dX8_rule_46 rfl 1 rfl ?_
    refine sm_getR (pc := 47) dX8_rule_47 fr_RX8_9 (by decide) rfl (fun v47 => ?_)
    refine sm_sipush (pc := 50) (2522 : Int32) dX8_rule_50 (by decide) ?_
    refine sm_iload_n (pc := 53) dX8_rule_53 rfl 2 rfl ?_
    refine sm_iadd (pc := 54) dX8_rule_54 ?_
    refine sm_iload_n (pc := 55) dX8_rule_55 rfl 3 rfl ?_
    refine sm_i2l (pc := 56) dX8_rule_56 ?_
    refine sm_sJ (pc := 57) dX8_rule_57 (fun S57 => ?_)
    refine sm_iload_n (pc := 58) dX8_rule_58 rfl 0 rfl ?_
    exact sm_retI (pc := 59) dX8_rule_59
  refine sm_sub [] rfl ?_
  exact sJ_X8_rule_32 Z  S26
set_option maxRecDepth 20000 in
set_option maxHeartbeats 4000000 in
theorem s_X8_rule (Z : ZT) (c : Nat) (a1 : Int32) (a2 : Int32) (S : St) : Sim eI Z rm_X8_rule RX8 cX8_rule 4 (some .int) 0 [(0, .ref c), (1, .int a1), (2, .int a2)] [] S (F_X8_rule c a1 a2 S) := by
  unfold F_X8_rule
  refine sm_iload_n (pc := 0) dX8_rule_0 rfl 1 rfl ?_
  refine sm_i2l (pc := 1) dX8_rule_1 ?_
  refine sm_lconst (pc := 2) (0 : Int64) dX8_rule_2 (by decide) ?_
  refine sm_lconst (pc := 3) (1 : Int64) dX8_rule_3 (by decide) ?_
  refine sm_callSI (pc := 4) [.long (Int32.toInt64 a1), .long (0 : Int64), .long (1 : Int64)] (fun lq rq Sq hq => m_X8_in Z lq (Int32.toInt64 a1) (0 : Int64) (1 : Int64) S hq) dX8_rule_4 mi_X8_in ml_RX8_85 ⟨Nat.le_of_ble_eq_true rfl, Nat.le_of_ble_eq_true rfl, rfl, rfl⟩ rfl (Nat.le_of_ble_eq_true rfl) rfl (fun r4 S4 => ?_)
  refine sm_if_eq 32 (pc := 7) dX8_rule_7 rfl ?_ ?_
  · refine sm_sub [] rfl ?_
    exact sJ_X8_rule_32 Z  S4
  refine sm_iload_n (pc := 10) dX8_rule_10 rfl 2 rfl ?_
  refine sm_i2l (pc := 11) dX8_rule_11 ?_
  refine sm_lconst (pc := 12) (0 : Int64) dX8_rule_12 (by decide) ?_
  refine sm_iload_n (pc := 13) dX8_rule_13 rfl 1 rfl ?_
  refine sm_if_ne 23 (pc := 14) dX8_rule_14 rfl ?_ ?_
  · refine sm_ldc2 (pc := 23) (10000 : Int64) dX8_rule_23 kc_RX8_122 ?_
    refine sm_sub [0, 1, 2] rfl ?_
    exact sJ_X8_rule_26 Z  c a1 a2 (10000 : Int64) (0 : Int64) (Int32.toInt64 a2) S4
  refine sm_ldc2 (pc := 17) (90 : Int64) dX8_rule_17 kc_RX8_211 ?_
  refine sm_goto 26 (pc := 20) dX8_rule_20 rfl ?_
  refine sm_sub [0, 1, 2] rfl ?_
  exact sJ_X8_rule_26 Z  c a1 a2 (90 : Int64) (0 : Int64) (Int32.toInt64 a2) S4
set_option maxRecDepth 20000 in
set_option maxHeartbeats 4000000 in
theorem m_X8_rule (Z : ZT) (l : Launch) (c : Nat) (a1 : Int32) (a2 : Int32) (S : St) {r : Int32} {S' : St} (h : F_X8_rule c a1 a2 S = some (r, S')) : MetX Z l yX8_rule cX8_rule 4 (some .int) rm_X8_rule [.ref c, .int a1, .int a2] S (eI r) S' := Sim.met (by decide +kernel) rfl (Nat.le_of_ble_eq_true rfl) (s_X8_rule Z c a1 a2 S) l h
set_option maxRecDepth 20000 in
set_option maxHeartbeats 4000000 in
theorem sJ_X8_of_20 (Z : ZT)    (S : St) : Sim eI Z rm_X8_of RX8 cX8_of 5 (some .int) 20 [] [] S (J_X8_of_20  S) := by
  unfold J_X8_of_20
  refine sm_iconst (pc := 20) (-1 : Int32) dX8_of_20 (by decide) ?_
  exact sm_retI (pc := 21) dX8_of_21
set_option maxRecDepth 20000 in
set_option maxHeartbeats 4000000 in
theorem sJ_X8_of_171 (Z : ZT)   (t0 : Int32) (S : St) : Sim eI Z rm_X8_of RX8 cX8_of 5 (some .int) 171 [] [.int t0] S (J_X8_of_171  t0 S) := by
  unfold J_X8_of_171
  exact sm_retI (pc := 171) dX8_of_171
set_option maxRecDepth 20000 in
set_option maxHeartbeats 4000000 in
theorem sJ_X8_of_199 (Z : ZT)   (t0 : Int32) (S : St) : Sim eI Z rm_X8_of RX8 cX8_of 5 (some .int) 199 [] [.int t0] S (J_X8_of_199  t0 S) := by
  unfold J_X8_of_199
  exact sm_retI (pc := 199) dX8_of_199
set_option maxRecDepth 20000 in
set_option maxHeartbeats 4000000 in
theorem s_X8_of (Z : ZT) (c : Nat) (a1 : Int32) (a2 : Int32) (S : St) : Sim eI Z rm_X8_of RX8 cX8_of 5 (some .int) 0 [(0, .ref c), (1, .int a1), (2, .int a2)] [] S (F_X8_of c a1 a2 S) := by
  unfold F_X8_of
  refine sm_aload_n (pc := 0) dX8_of_0 rfl 0 rfl ?_
  refine sm_iload_n (pc := 1) dX8_of_1 rfl 1 rfl ?_
  refine sm_callVI (pc := 2) [.int a1] (fun lq rq Sq hq => m_X8_isLoan Z lq c a1 S hq) dX8_of_2 mi_X8_isLoan ml_RX8_197 ⟨Nat.le_of_ble_eq_true rfl, Nat.le_of_ble_eq_true rfl, rfl, rfl⟩ rfl (by decide) rfl (Nat.le_of_ble_eq_true rfl) rfl (fun r2 S2 => ?_)
  refine sm_if_eq 20 (pc := 5) dX8_of_5 rfl ?_ ?_
  · refine sm_sub [] rfl ?_
    exact sJ_X8_of_20 Z  S2
  refine sm_iload_n (pc := 8) dX8_of_8 rfl 2 rfl ?_
  refine sm_i2l (pc := 9) dX8_of_9 ?_
  refine sm_lconst (pc := 10) (0 : Int64) dX8_of_10 (by decide) ?_
  refine sm_ldc2 (pc := 11) (9 : Int64) dX8_of_11 kc_RX8_213 ?_
  refine sm_callSI (pc := 14) [.long (Int32.toInt64 a2), .long (0 : Int64), .long (9 : Int64)] (fun lq rq Sq hq => m_X8_in Z lq (Int32.toInt64 a2) (0 : Int64) (9 : Int64) S2 hq) dX8_of_14 mi_X8_in ml_RX8_85 ⟨Nat.le_of_ble_eq_true rfl, Nat.le_of_ble_eq_true rfl, rfl, rfl⟩ rfl (Nat.le_of_ble_eq_true rfl) rfl (fun r14 S14 => ?_)
  refine sm_if_ne 22 (pc := 17) dX8_of_17 rfl ?_ ?_
  · refine sm_aload_n (pc := 22) dX8_of_22 rfl 0 rfl ?_
    refine sm_iload_n (pc := 23) dX8_of_23 rfl 1 rfl ?_
    refine sm_bipush (pc := 24) (14 : Int32) dX8_of_24 (by decide) ?_
    refine sm_callVL (pc := 26) [.int a1, .int (14 : Int32)] (fun lq rq Sq hq => m_X8_at Z lq c a1 (14 : Int32) S14 hq) dX8_of_26 mi_X8_at ml_RX8_136 ⟨Nat.le_of_ble_eq_true rfl, Nat.le_of_ble_eq_true rfl, rfl, rfl⟩ rfl (by decide) rfl (Nat.le_of_ble_eq_true rfl) rfl (fun r26 S26 => ?_)
    refine sm_l2i (pc := 29) dX8_of_29 ?_
    refine sm_bdI (fun v30 => ?_)
    refine sm_istore_n (pc := 30) (lv' := [(3, .int v30), (0, .ref c), (1, .int a1), (2, .int a2)]) dX8_of_30 rfl (by decide) rfl ?_
    refine sm_aload_n (pc := 31) dX8_of_31 rfl 1 rfl ?_
    refine sm_iload_n (pc := 32) dX8_of_32 rfl 2 rfl ?_
    refine sm_bipush (pc := 33) (7 : Int32) dX8_of_33 (by decide) ?_
    refine sm_callVL (pc := 35) [.int a1, .int (7 : Int32)] (fun lq rq Sq hq => m_X8_at Z lq c a1 (7 : Int32) S26 hq) dX8_of_35 mi_X8_at ml_RX8_136 ⟨Nat.le_of_ble_eq_true rfl, Nat.le_of_ble_eq_true rfl, rfl, rfl⟩ rfl (by decide) rfl (Nat.le_of_ble_eq_true rfl) rfl (fun r35 S35 => ?_)
    refine sm_l2i (pc := 38) dX8_of_38 ?_
    refine sm_bdI (fun v39 => ?_)
    refine sm_istore (pc := 39) (lv' := [(4, .int v39), (3, .int v30), (0, .ref c), (1, .int a1), (2, .int a2)]) dX8_of_39 (by decide) rfl ?_
    refine sm_iload_n (pc := 41) dX8_of_41 rfl 4 rfl ?_
    refine sm_tswk (pc := 42) 172 [92, 100, 108, 116, 124, 132, 141, 144, 146] [0, 1, 2, 3, 4, 5, 6, 7, 8] dX8_of_42 rfl (by decide) (by decide) (by decide) rfl ⟨?_, ?_, ?_, ?_, ?_, ?_, ?_, ?_, ?_, trivial⟩ ?_
    · refine sm_aload_n (pc := 92) dX8_of_92 rfl 2 rfl ?_
      refine sm_iload_n (pc := 93) dX8_of_93 rfl 3 rfl ?_
      refine sm_iconst (pc := 94) (1 : Int32) dX8_of_94 (by decide) ?_
      refine sm_callVL (pc := 95) [.int a1, .int (1 : Int32)] (fun lq rq Sq hq => m_X8_at Z lq c a1 (1 : Int32) S35 hq) dX8_of_95 mi_X8_at ml_RX8_136 ⟨Nat.le_of_ble_eq_true rfl, Nat.le_of_ble_eq_true rfl, rfl, rfl⟩ rfl (by decide) rfl (Nat.le_of_ble_eq_true rfl) rfl (fun r95 S95 => ?_)
      refine sm_l2i (pc := 98) dX8_of_98 ?_
      exact sm_retI (pc := 99) dX8_of_99
    · refine sm_aload_n (pc := 100) dX8_of_100 rfl 2 rfl ?_
      refine sm_iload_n (pc := 101) dX8_of_101 rfl 3 rfl ?_
      refine sm_iconst (pc := 102) (2 : Int32) dX8_of_102 (by decide) ?_
      refine sm_callVL (pc := 103) [.int a1, .int (2 : Int32)] (fun lq rq Sq hq => m_X8_at Z lq c a1 (2 : Int32) S35 hq) dX8_of_103 mi_X8_at ml_RX8_136 ⟨Nat.le_of_ble_eq_true rfl, Nat.le_of_ble_eq_true rfl, rfl, rfl⟩ rfl (by decide) rfl (Nat.le_of_ble_eq_true rfl) rfl (fun r103 S103 => ?_)
      refine sm_l2i (pc := 106) dX8_of_106 ?_
      exact sm_retI (pc := 107) dX8_of_107
    · refine sm_aload_n (pc := 108) dX8_of_108 rfl 2 rfl ?_
      refine sm_iload_n (pc := 109) dX8_of_109 rfl 3 rfl ?_
      refine sm_iconst (pc := 110) (3 : Int32) dX8_of_110 (by decide) ?_
      refine sm_callVL (pc := 111) [.int a1, .int (3 : Int32)] (fun lq rq Sq hq => m_X8_at Z lq c a1 (3 : Int32) S35 hq) dX8_of_111 mi_X8_at ml_RX8_136 ⟨Nat.le_of_ble_eq_true rfl, Nat.le_of_ble_eq_true rfl, rfl, rfl⟩ rfl (by decide) rfl (Nat.le_of_ble_eq_true rfl) rfl (fun r111 S111 => ?_)
      refine sm_l2i (pc := 114) dX8_of_114 ?_
      exact sm_retI (pc := 115) dX8_of_115
    · refine sm_aload_n (pc := 116) dX8_of_116 rfl 2 rfl ?_
      refine sm_iload_n (pc := 117) dX8_of_117 rfl 3 rfl ?_
      refine sm_iconst (pc := 118) (4 : Int32) dX8_of_118 (by decide) ?_
      refine sm_callVL (pc := 119) [.int a1, .int (4 : Int32)] (fun lq rq Sq hq => m_X8_at Z lq c a1 (4 : Int32) S35 hq) dX8_of_119 mi_X8_at ml_RX8_136 ⟨Nat.le_of_ble_eq_true rfl, Nat.le_of_ble_eq_true rfl, rfl, rfl⟩ rfl (by decide) rfl (Nat.le_of_ble_eq_true rfl) rfl (fun r119 S119 => ?_)
      refine sm_l2i (pc := 122) dX8_of_122 ?_
      exact sm_retI (pc := 123) dX8_of_123
    · refine sm_aload_n (pc := 124) dX8_of_124 rfl 2 rfl ?_
      refine sm_iload_n (pc := 125) dX8_of_125 rfl 3 rfl ?_
      refine sm_iconst (pc := 126) (5 : Int32) dX8_of_126 (by decide) ?_
      refine sm_callVL (pc := 127) [.int a1, .int (5 : Int32)] (fun lq rq Sq hq => m_X8_at Z lq c a1 (5 : Int32) S35 hq) dX8_of_127 mi_X8_at ml_RX8_136 ⟨Nat.le_of_ble_eq_true rfl, Nat.le_of_ble_eq_true rfl, rfl, rfl⟩ rfl (by decide) rfl (Nat.le_of_ble_eq_true rfl) rfl (fun r127 S127 => ?_)
      refine sm_l2i (pc := 130) dX8_of_130 ?_
      exact sm_retI (pc := 131) dX8_of_131
    · refine sm_aload_n (pc := 132) dX8_of_132 rfl 2 rfl ?_
      refine sm_iload_n (pc := 133) dX8_of_133 rfl 3 rfl ?_
      refine sm_bipush (pc := 134) (6 : Int32) dX8_of_134 (by decide) ?_
      refine sm_callVL (pc := 136) [.int a1, .int (6 : Int32)] (fun lq rq Sq hq => m_X8_at Z lq c a1 (6 : Int32) S35 hq) dX8_of_136 mi_X8_at ml_RX8_136 ⟨Nat.le_of_ble_eq_true rfl, Nat.le_of_ble_eq_true rfl, rfl, rfl⟩ rfl (by decide) rfl (Nat.le_of_ble_eq_true rfl) rfl (fun r136 S136 => ?_)
      refine sm_l2i (pc := 139) dX8_of_139 ?_
      exact sm_retI (pc := 140) dX8_of_140
    · refine sm_iload (pc := 141) dX8_of_141 0 rfl ?_
      exact sm_retI (pc := 143) dX8_of_143
    · refine sm_iload_n (pc := 144) dX8_of_144 rfl 1 rfl ?_
      exact sm_retI (pc := 145) dX8_of_145
    · refine sm_iload_n (pc := 146) dX8_of_146 rfl 1 rfl ?_
      refine sm_if_ne 154 (pc := 147) dX8_of_147 rfl ?_ ?_
      · refine sm_aload_n (pc := 154) dX8_of_154 rfl 2 rfl ?_
        refine sm_getR (pc := 155) dX8_of_155 fr_RX8_9 (by decide) rfl (fun v155 => ?_)
        refine sm_sipush (pc := 158) (2521 : Int32) dX8_of_158 (by decide) ?_
        refine sm_aJ (pc := 161) dX8_of_161 (fun v161 => ?_)
        refine sm_aload_n (pc := 162) dX8_of_162 rfl 2 rfl ?_
        refine sm_iload_n (pc := 163) dX8_of_163 rfl 3 rfl ?_
        refine sm_bipush (pc := 164) (15 : Int32) dX8_of_164 (by decide) ?_
        refine sm_callVL (pc := 166) [.int a1, .int (15 : Int32)] (fun lq rq Sq hq => m_X8_at Z lq c a1 (15 : Int32) S35 hq) dX8_of_166 mi_X8_at ml_RX8_136 ⟨Nat.le_of_ble_eq_true rfl, Nat.le_of_ble_eq_true rfl, rfl, rfl⟩ rfl (by decide) rfl (Nat.le_of_ble_eq_true rfl) rfl (fun r166 S166 => ?_)
        refine sm_lsub (pc := 169) dX8_of_169 ?_
        refine sm_l2i (pc := 170) dX8_of_170 ?_
        refine sm_sub [] rfl ?_
        exact sJ_X8_of_171 Z  (Int64.toInt32 (v161 - r166)) S166
      refine sm_iconst (pc := 150) (0 : Int32) dX8_of_150 (by decide) ?_
      refine sm_goto 171 (pc := 151) dX8_of_151 rfl ?_
      refine sm_sub [] rfl ?_
      exact sJ_X8_of_171 Z  (0 : Int32) S35
    refine sm_iload (pc := 172) dX8_of_172 0 rfl ?_
    refine sm_i2l (pc := 174) dX8_of_174 ?_
    refine sm_aload_n (pc := 175) dX8_of_175 rfl 2 rfl ?_
    refine sm_iload_n (pc := 176) dX8_of_176 rfl 3 rfl ?_
    refine sm_iconst (pc := 177) (4 : Int32) dX8_of_177 (by decide) ?_
    refine sm_callVL (pc := 178) [.int a1, .int (4 : Int32)] (fun lq rq Sq hq => m_X8_at Z lq c a1 (4 : Int32) S35 hq) dX8_of_178 mi_X8_at ml_RX8_136 ⟨Nat.le_of_ble_eq_true rfl, Nat.le_of_ble_eq_true rfl, rfl, rfl⟩ rfl (by decide) rfl (Nat.le_of_ble_eq_true rfl) rfl (fun r178 S178 => ?_)
    refine sm_lcmp_ne 190 (pc := 181) dX8_of_181 dX8_of_182 rfl ?_ ?_
    · refine sm_aload_n (pc := 190) dX8_of_190 rfl 2 rfl ?_
      refine sm_iload_n (pc := 191) dX8_of_191 rfl 3 rfl ?_
      refine sm_iload (pc := 192) dX8_of_192 0 rfl ?_
      refine sm_iconst (pc := 194) (1 : Int32) dX8_of_194 (by decide) ?_
      refine sm_iadd (pc := 195) dX8_of_195 ?_
      refine sm_callVI (pc := 196) [.int a1, .int (v39 + (1 : Int32))] (fun lq rq Sq hq => m_X8_endOf Z lq c a1 (v39 + (1 : Int32)) S178 hq) dX8_of_196 mi_X8_endOf ml_RX8_143 ⟨Nat.le_of_ble_eq_true rfl, Nat.le_of_ble_eq_true rfl, rfl, rfl⟩ rfl (by decide) rfl (Nat.le_of_ble_eq_true rfl) rfl (fun r196 S196 => ?_)
      refine sm_sub [] rfl ?_
      exact sJ_X8_of_199 Z  r196 S196
    refine sm_bipush (pc := 185) (-2 : Int32) dX8_of_185 (by decide) ?_
    refine sm_goto 199 (pc := 187) dX8_of_187 rfl ?_
    refine sm_sub [] rfl ?_
    exact sJ_X8_of_199 Z  (-2 : Int32) S178
  refine sm_sub [] rfl ?_
  exact sJ_X8_of_20 Z  S14
set_option maxRecDepth 20000 in
set_option maxHeartbeats 4000000 in
theorem m_X8_of (Z : ZT) (l : Launch) (c : Nat) (a1 : Int32) (a2 : Int32) (S : St) {r : Int32} {S' : St} (h : F_X8_of c a1 a2 S = some (r, S')) : MetX Z l yX8_of cX8_of 5 (some .int) rm_X8_of [.ref c, .int a1, .int a2] S (eI r) S' := Sim.met (by decide +kernel) rfl (Nat.le_of_ble_eq_true rfl) (s_X8_of Z c a1 a2 S) l h
set_option maxRecDepth 20000 in
set_option maxHeartbeats 4000000 in
theorem sB_X8_owed_5 (Z : ZT) (rec5 : (Nat → Int32 → Int64 → Int32 → St → Option (Int64 × St))) (h5 : ∀ (x0 : Nat) (x1 : Int32) (x2 : Int64) (x4 : Int32)  (S : St), Sim eL Z rm_X8_owed RX8 cX8_owed 5 (some .long) 5 [(0, .ref x0), (1, .int x1), (2, .long x2), (4, .int x4)] [] S (rec5 x0 x1 x2 x4 S)) (x0 : Nat) (x1 : Int32) (x2 : Int64) (x4 : Int32)  (S : St) : Sim eL Z rm_X8_owed RX8 cX8_owed 5 (some .long) 5 [(0, .ref x0), (1, .int x1), (2, .long x2), (4, .int x4)] [] S (B_X8_owed_5 rec5 x0 x1 x2 x4 S) := by
  unfold B_X8_owed_5
  refine sm_iload (pc := 5) dX8_owed_5 3 rfl ?_
  refine sm_i2l (pc := 7) dX8_owed_7 ?_
  refine sm_aload_n (pc := 8) dX8_owed_8 rfl 0 rfl ?_
  refine sm_iload_n (pc := 9) dX8_owed_9 rfl 1 rfl ?_
  refine sm_bipush (pc := 10) (14 : Int32) dX8_owed_10 (by decide) ?_
  refine sm_callVL (pc := 12) [.int x1, .int (14 : Int32)] (fun lq rq Sq hq => m_X8_at Z lq x0 x1 (14 : Int32) S hq) dX8_owed_12 mi_X8_at ml_RX8_136 ⟨Nat.le_of_ble_eq_true rfl, Nat.le_of_ble_eq_true rfl, rfl, rfl⟩ rfl (by decide) rfl (Nat.le_of_ble_eq_true rfl) rfl (fun r12 S12 => ?_)
  refine sm_lcmp_ge 35 (pc := 15) dX8_owed_15 dX8_owed_16 rfl ?_ ?_
  · refine sm_lload_n (pc := 35) dX8_owed_35 rfl 2 rfl ?_
    exact sm_retL (pc := 36) dX8_owed_36
  refine sm_lload_n (pc := 19) dX8_owed_19 rfl 2 rfl ?_
  refine sm_aload_n (pc := 20) dX8_owed_20 rfl 0 rfl ?_
  refine sm_iload_n (pc := 21) dX8_owed_21 rfl 1 rfl ?_
  refine sm_iload (pc := 22) dX8_owed_22 3 rfl ?_
  refine sm_callVL (pc := 24) [.int x1, .int x4] (fun lq rq Sq hq => m_X8_asks Z lq x0 x1 x4 S12 hq) dX8_owed_24 mi_X8_asks ml_RX8_191 ⟨Nat.le_of_ble_eq_true rfl, Nat.le_of_ble_eq_true rfl, rfl, rfl⟩ rfl (by decide) rfl (Nat.le_of_ble_eq_true rfl) rfl (fun r24 S24 => ?_)
  refine sm_ladd (pc := 27) dX8_owed_27 ?_
  refine sm_bdJ (fun v28 => ?_)
  refine sm_lstore_n (pc := 28) (lv' := [(2, .long v28), (0, .ref x0), (1, .int x1), (4, .int x4)]) dX8_owed_28 rfl (by decide) rfl ?_
  refine sm_iinc (pc := 29) (x4 + 1) (lv' := [(4, .int (x4 + 1)), (2, .long v28), (0, .ref x0), (1, .int x1)]) dX8_owed_29 3 rfl rfl (by decide) rfl ?_
  refine sm_goto 5 (pc := 32) dX8_owed_32 rfl ?_
  refine sm_sub [2, 3, 1, 0] rfl ?_
  exact h5 x0 x1 v28 (x4 + 1) S24
set_option maxRecDepth 20000 in
set_option maxHeartbeats 4000000 in
theorem sL_X8_owed_5 (Z : ZT)  (n : Nat) : ∀ (x0 : Nat) (x1 : Int32) (x2 : Int64) (x4 : Int32)  (S : St), Sim eL Z rm_X8_owed RX8 cX8_owed 5 (some .long) 5 [(0, .ref x0), (1, .int x1), (2, .long x2), (4, .int x4)] [] S (L_X8_owed_5  n x0 x1 x2 x4 S) := by
  induction n with
  | zero => intros; exact sm_none
  | succ n ih => intro x0 x1 x2 x4 S; exact sB_X8_owed_5 Z  (L_X8_owed_5  n) ih x0 x1 x2 x4 S
set_option maxRecDepth 20000 in
set_option maxHeartbeats 4000000 in
theorem s_X8_owed (Z : ZT) (c : Nat) (a1 : Int32) (S : St) : Sim eL Z rm_X8_owed RX8 cX8_owed 5 (some .long) 0 [(0, .ref c), (1, .int a1)] [] S (F_X8_owed c a1 S) := by
  unfold F_X8_owed
  refine sm_lconst (pc := 0) (0 : Int64) dX8_owed_0 (by decide) ?_
  refine sm_lstore_n (pc := 1) (lv' := [(2, .long (0 : Int64)), (0, .ref c), (1, .int a1)]) dX8_owed_1 rfl (by decide) rfl ?_
  refine sm_iconst (pc := 2) (0 : Int32) dX8_owed_2 (by decide) ?_
  refine sm_istore (pc := 3) (lv' := [(4, .int (0 : Int32)), (2, .long (0 : Int64)), (0, .ref c), (1, .int a1)]) dX8_owed_3 (by decide) rfl ?_
  refine sm_sub [2, 3, 1, 0] rfl ?_
  exact sL_X8_owed_5 Z  6000 c a1 (0 : Int64) (0 : Int32) S
set_option maxRecDepth 20000 in
set_option maxHeartbeats 4000000 in
theorem m_X8_owed (Z : ZT) (l : Launch) (c : Nat) (a1 : Int32) (S : St) {r : Int64} {S' : St} (h : F_X8_owed c a1 S = some (r, S')) : MetX Z l yX8_owed cX8_owed 5 (some .long) rm_X8_owed [.ref c, .int a1] S (eL r) S' := Sim.met (by decide +kernel) rfl (Nat.le_of_ble_eq_true rfl) (s_X8_owed Z c a1 S) l h
set_option maxRecDepth 20000 in
set_option maxHeartbeats 4000000 in
theorem sB_X8_comes_33 (Z : ZT) (rec33 : (Nat → Int32 → Int32 → Int64 → Int32 → St → Option (Unit × St))) (h33 : ∀ (x0 : Nat) (x1 : Int32) (x2 : Int32) (x3 : Int64) (x5 : Int32)  (S : St), Sim eV Z rm_X8_comes RX8 cX8_comes 6 none 33 [(0, .ref x0), (1, .int x1), (2, .int x2), (3, .long x3), (5, .int x5)] [] S (rec33 x0 x1 x2 x3 x5 S)) (x0 : Nat) (x1 : Int32) (x2 : Int32) (x3 : Int64) (x5 : Int32)  (S : St) : Sim eV Z rm_X8_comes RX8 cX8_comes 6 none 33 [(0, .ref x0), (1, .int x1), (2, .int x2), (3, .long x3), (5, .int x5)] [] S (B_X8_comes_33 rec33 x0 x1 x2 x3 x5 S) := by
  unfold B_X8_comes_33
  refine sm_iload (pc := 33) dX8_comes_33 4 rfl ?_
  refine sm_aload_n (pc := 35) dX8_comes_35 rfl 0 rfl ?_
  refine sm_getI (pc := 36) dX8_comes_36 fr_RX8_222 (by decide) rfl (fun v36 => ?_)
  refine sm_icmp_ge 125 (pc := 39) dX8_comes_39 rfl ?_ ?_
  · exact sm_retV (pc := 125) dX8_comes_125
  refine sm_aload_n (pc := 42) dX8_comes_42 rfl 0 rfl ?_
  refine sm_getR (pc := 43) dX8_comes_43 fr_RX8_22 (by decide) rfl (fun v43 => ?_)
  refine sm_iload (pc := 46) dX8_comes_46 4 rfl ?_
  refine sm_aload_n (pc := 48) dX8_comes_48 rfl 0 rfl ?_
  refine sm_iload_n (pc := 49) dX8_comes_49 rfl 1 rfl ?_
  refine sm_iload_n (pc := 50) dX8_comes_50 rfl 2 rfl ?_
  refine sm_iload (pc := 51) dX8_comes_51 4 rfl ?_
  refine sm_iadd (pc := 53) dX8_comes_53 ?_
  refine sm_iconst (pc := 54) (1 : Int32) dX8_comes_54 (by decide) ?_
  refine sm_iadd (pc := 55) dX8_comes_55 ?_
  refine sm_callVI (pc := 56) [.int x1, .int ((x2 + x5) + (1 : Int32))] (fun lq rq Sq hq => m_X8_endOf Z lq x0 x1 ((x2 + x5) + (1 : Int32)) S hq) dX8_comes_56 mi_X8_endOf ml_RX8_143 ⟨Nat.le_of_ble_eq_true rfl, Nat.le_of_ble_eq_true rfl, rfl, rfl⟩ rfl (by decide) rfl (Nat.le_of_ble_eq_true rfl) rfl (fun r56 S56 => ?_)
  refine sm_sI (pc := 59) dX8_comes_59 (fun S59 => ?_)
  refine sm_aload_n (pc := 60) dX8_comes_60 rfl 0 rfl ?_
  refine sm_getR (pc := 61) dX8_comes_61 fr_RX8_26 (by decide) rfl (fun v61 => ?_)
  refine sm_iload (pc := 64) dX8_comes_64 4 rfl ?_
  refine sm_aload_n (pc := 66) dX8_comes_66 rfl 0 rfl ?_
  refine sm_iload_n (pc := 67) dX8_comes_67 rfl 1 rfl ?_
  refine sm_lload_n (pc := 68) dX8_comes_68 rfl 3 rfl ?_
  refine sm_iload_n (pc := 69) dX8_comes_69 rfl 2 rfl ?_
  refine sm_iload (pc := 70) dX8_comes_70 4 rfl ?_
  refine sm_iadd (pc := 72) dX8_comes_72 ?_
  refine sm_callVL (pc := 73) [.int x1, .long x3, .int (x2 + x5)] (fun lq rq Sq hq => m_X8_periodInterest Z lq x0 x1 x3 (x2 + x5) S59 hq) dX8_comes_73 mi_X8_periodInterest ml_RX8_146 ⟨Nat.le_of_ble_eq_true rfl, Nat.le_of_ble_eq_true rfl, rfl, rfl⟩ rfl (by decide) rfl (Nat.le_of_ble_eq_true rfl) rfl (fun r73 S73 => ?_)
  refine sm_sJ (pc := 76) dX8_comes_76 (fun S76 => ?_)
  refine sm_aload_n (pc := 77) dX8_comes_77 rfl 0 rfl ?_
  refine sm_getR (pc := 78) dX8_comes_78 fr_RX8_29 (by decide) rfl (fun v78 => ?_)
  refine sm_iload (pc := 81) dX8_comes_81 4 rfl ?_
  refine sm_aload_n (pc := 83) dX8_comes_83 rfl 0 rfl ?_
  refine sm_iload_n (pc := 84) dX8_comes_84 rfl 1 rfl ?_
  refine sm_lload_n (pc := 85) dX8_comes_85 rfl 3 rfl ?_
  refine sm_aload_n (pc := 86) dX8_comes_86 rfl 0 rfl ?_
  refine sm_getR (pc := 87) dX8_comes_87 fr_RX8_26 (by decide) rfl (fun v87 => ?_)
  refine sm_iload (pc := 90) dX8_comes_90 4 rfl ?_
  refine sm_aJ (pc := 92) dX8_comes_92 (fun v92 => ?_)
  refine sm_iload_n (pc := 93) dX8_comes_93 rfl 2 rfl ?_
  refine sm_iload (pc := 94) dX8_comes_94 4 rfl ?_
  refine sm_iadd (pc := 96) dX8_comes_96 ?_
  refine sm_callVL (pc := 97) [.int x1, .long x3, .long v92, .int (x2 + x5)] (fun lq rq Sq hq => m_X8_principalOf Z lq x0 x1 x3 v92 (x2 + x5) S76 hq) dX8_comes_97 mi_X8_principalOf ml_RX8_175 ⟨Nat.le_of_ble_eq_true rfl, Nat.le_of_ble_eq_true rfl, rfl, rfl⟩ rfl (by decide) rfl (Nat.le_of_ble_eq_true rfl) rfl (fun r97 S97 => ?_)
  refine sm_sJ (pc := 100) dX8_comes_100 (fun S100 => ?_)
  refine sm_lload_n (pc := 101) dX8_comes_101 rfl 3 rfl ?_
  refine sm_aload_n (pc := 102) dX8_comes_102 rfl 0 rfl ?_
  refine sm_getR (pc := 103) dX8_comes_103 fr_RX8_29 (by decide) rfl (fun v103 => ?_)
  refine sm_iload (pc := 106) dX8_comes_106 4 rfl ?_
  refine sm_aJ (pc := 108) dX8_comes_108 (fun v108 => ?_)
  refine sm_lsub (pc := 109) dX8_comes_109 ?_
  refine sm_bdJ (fun v110 => ?_)
  refine sm_lstore_n (pc := 110) (lv' := [(3, .long v110), (0, .ref x0), (1, .int x1), (2, .int x2), (5, .int x5)]) dX8_comes_110 rfl (by decide) rfl ?_
  refine sm_aload_n (pc := 111) dX8_comes_111 rfl 1 rfl ?_
  refine sm_getR (pc := 112) dX8_comes_112 fr_RX8_32 (by decide) rfl (fun v112 => ?_)
  refine sm_iload (pc := 115) dX8_comes_115 4 rfl ?_
  refine sm_lload_n (pc := 117) dX8_comes_117 rfl 0 rfl ?_
  refine sm_sJ (pc := 118) dX8_comes_118 (fun S118 => ?_)
  refine sm_iinc (pc := 119) (x5 + 1) (lv' := [(5, .int (x5 + 1)), (3, .long v110), (0, .ref x0), (1, .int x1), (2, .int x2)]) dX8_comes_119 4 rfl rfl (by decide) rfl ?_
  refine sm_goto 33 (pc := 122) dX8_comes_122 rfl ?_
  refine sm_sub [2, 3, 4, 1, 0] rfl ?_
  exact h33 x0 x1 x2 v110 (x5 + 1) S118
set_option maxRecDepth 20000 in
set_option maxHeartbeats 4000000 in
theorem sL_X8_comes_33 (Z : ZT)  (n : Nat) : ∀ (x0 : Nat) (x1 : Int32) (x2 : Int32) (x3 : Int64) (x5 : Int32)  (S : St), Sim eV Z rm_X8_comes RX8 cX8_comes 6 none 33 [(0, .ref x0), (1, .int x1), (2, .int x2), (3, .long x3), (5, .int x5)] [] S (L_X8_comes_33  n x0 x1 x2 x3 x5 S) := by
  induction n with
  | zero => intros; exact sm_none
  | succ n ih => intro x0 x1 x2 x3 x5 S; exact sB_X8_comes_33 Z  (L_X8_comes_33  n) ih x0 x1 x2 x3 x5 S
set_option maxRecDepth 20000 in
set_option maxHeartbeats 4000000 in
theorem s_X8_comes (Z : ZT) (c : Nat) (a1 : Int32) (S : St) : Sim eV Z rm_X8_comes RX8 cX8_comes 6 none 0 [(0, .ref c), (1, .int a1)] [] S (F_X8_comes c a1 S) := by
  unfold F_X8_comes
  refine sm_aload_n (pc := 0) dX8_comes_0 rfl 0 rfl ?_
  refine sm_iload_n (pc := 1) dX8_comes_1 rfl 1 rfl ?_
  refine sm_bipush (pc := 2) (7 : Int32) dX8_comes_2 (by decide) ?_
  refine sm_callVL (pc := 4) [.int a1, .int (7 : Int32)] (fun lq rq Sq hq => m_X8_at Z lq c a1 (7 : Int32) S hq) dX8_comes_4 mi_X8_at ml_RX8_136 ⟨Nat.le_of_ble_eq_true rfl, Nat.le_of_ble_eq_true rfl, rfl, rfl⟩ rfl (by decide) rfl (Nat.le_of_ble_eq_true rfl) rfl (fun r4 S4 => ?_)
  refine sm_l2i (pc := 7) dX8_comes_7 ?_
  refine sm_bdI (fun v8 => ?_)
  refine sm_istore_n (pc := 8) (lv' := [(2, .int v8), (0, .ref c), (1, .int a1)]) dX8_comes_8 rfl (by decide) rfl ?_
  refine sm_aload_n (pc := 9) dX8_comes_9 rfl 1 rfl ?_
  refine sm_aload_n (pc := 10) dX8_comes_10 rfl 1 rfl ?_
  refine sm_iload_n (pc := 11) dX8_comes_11 rfl 2 rfl ?_
  refine sm_iconst (pc := 12) (4 : Int32) dX8_comes_12 (by decide) ?_
  refine sm_callVL (pc := 13) [.int a1, .int (4 : Int32)] (fun lq rq Sq hq => m_X8_at Z lq c a1 (4 : Int32) S4 hq) dX8_comes_13 mi_X8_at ml_RX8_136 ⟨Nat.le_of_ble_eq_true rfl, Nat.le_of_ble_eq_true rfl, rfl, rfl⟩ rfl (by decide) rfl (Nat.le_of_ble_eq_true rfl) rfl (fun r13 S13 => ?_)
  refine sm_l2i (pc := 16) dX8_comes_16 ?_
  refine sm_iload_n (pc := 17) dX8_comes_17 rfl 0 rfl ?_
  refine sm_isub (pc := 18) dX8_comes_18 ?_
  refine sm_putI (pc := 19) dX8_comes_19 fw_RX8_222 (by decide) rfl (fun S19 => ?_)
  refine sm_aload_n (pc := 22) dX8_comes_22 rfl 1 rfl ?_
  refine sm_iload_n (pc := 23) dX8_comes_23 rfl 2 rfl ?_
  refine sm_bipush (pc := 24) (8 : Int32) dX8_comes_24 (by decide) ?_
  refine sm_callVL (pc := 26) [.int a1, .int (8 : Int32)] (fun lq rq Sq hq => m_X8_at Z lq c a1 (8 : Int32) S19 hq) dX8_comes_26 mi_X8_at ml_RX8_136 ⟨Nat.le_of_ble_eq_true rfl, Nat.le_of_ble_eq_true rfl, rfl, rfl⟩ rfl (by decide) rfl (Nat.le_of_ble_eq_true rfl) rfl (fun r26 S26 => ?_)
  refine sm_lstore_n (pc := 29) (lv' := [(3, .long r26), (2, .int v8), (0, .ref c), (1, .int a1)]) dX8_comes_29 rfl (by decide) rfl ?_
  refine sm_iconst (pc := 30) (0 : Int32) dX8_comes_30 (by decide) ?_
  refine sm_istore (pc := 31) (lv' := [(5, .int (0 : Int32)), (3, .long r26), (2, .int v8), (0, .ref c), (1, .int a1)]) dX8_comes_31 (by decide) rfl ?_
  refine sm_sub [3, 4, 2, 1, 0] rfl ?_
  exact sL_X8_comes_33 Z  6000 c a1 v8 r26 (0 : Int32) S26
set_option maxRecDepth 20000 in
set_option maxHeartbeats 4000000 in
theorem m_X8_comes (Z : ZT) (l : Launch) (c : Nat) (a1 : Int32) (S : St) {r : Unit} {S' : St} (h : F_X8_comes c a1 S = some (r, S')) : MetX Z l yX8_comes cX8_comes 6 none rm_X8_comes [.ref c, .int a1] S (eV r) S' := Sim.met (by decide +kernel) rfl (Nat.le_of_ble_eq_true rfl) (s_X8_comes Z c a1 S) l h
set_option maxRecDepth 20000 in
set_option maxHeartbeats 4000000 in
theorem sJ_X8_sum_20 (Z : ZT)    (S : St) : Sim eL Z rm_X8_sum RX8 cX8_sum 6 (some .long) 20 [] [] S (J_X8_sum_20  S) := by
  unfold J_X8_sum_20
  refine sm_ldc2 (pc := 20) (-1 : Int64) dX8_sum_20 kc_RX8_134 ?_
  exact sm_retL (pc := 23) dX8_sum_23
set_option maxRecDepth 20000 in
set_option maxHeartbeats 4000000 in
theorem sJ_X8_sum_101 (Z : ZT)  (x0 : Nat) (x1 : Int32) (x2 : Int32)  (S : St) : Sim eL Z rm_X8_sum RX8 cX8_sum 6 (some .long) 101 [(0, .ref x0), (1, .int x1), (2, .int x2)] [] S (J_X8_sum_101  x0 x1 x2 S) := by
  unfold J_X8_sum_101
  refine sm_aload_n (pc := 101) dX8_sum_101 rfl 0 rfl ?_
  refine sm_iload_n (pc := 102) dX8_sum_102 rfl 1 rfl ?_
  refine sm_bipush (pc := 103) (10 : Int32) dX8_sum_103 (by decide) ?_
  refine sm_iload_n (pc := 105) dX8_sum_105 rfl 2 rfl ?_
  refine sm_iadd (pc := 106) dX8_sum_106 ?_
  refine sm_iconst (pc := 107) (4 : Int32) dX8_sum_107 (by decide) ?_
  refine sm_isub (pc := 108) dX8_sum_108 ?_
  refine sm_callVL (pc := 109) [.int x1, .int (((10 : Int32) + x2) - (4 : Int32))] (fun lq rq Sq hq => m_X8_at Z lq x0 x1 (((10 : Int32) + x2) - (4 : Int32)) S hq) dX8_sum_109 mi_X8_at ml_RX8_136 ⟨Nat.le_of_ble_eq_true rfl, Nat.le_of_ble_eq_true rfl, rfl, rfl⟩ rfl (by decide) rfl (Nat.le_of_ble_eq_true rfl) rfl (fun r109 S109 => ?_)
  exact sm_retL (pc := 112) dX8_sum_112
set_option maxRecDepth 20000 in
set_option maxHeartbeats 4000000 in
theorem sB_X8_sum_131 (Z : ZT) (rec131 : (Nat → Int64 → Int32 → St → Option (Int64 × St))) (h131 : ∀ (x0 : Nat) (x3 : Int64) (x5 : Int32)  (S : St), Sim eL Z rm_X8_sum RX8 cX8_sum 6 (some .long) 131 [(0, .ref x0), (3, .long x3), (5, .int x5)] [] S (rec131 x0 x3 x5 S)) (x0 : Nat) (x3 : Int64) (x5 : Int32)  (S : St) : Sim eL Z rm_X8_sum RX8 cX8_sum 6 (some .long) 131 [(0, .ref x0), (3, .long x3), (5, .int x5)] [] S (B_X8_sum_131 rec131 x0 x3 x5 S) := by
  unfold B_X8_sum_131
  refine sm_iload (pc := 131) dX8_sum_131 2 rfl ?_
  refine sm_aload_n (pc := 133) dX8_sum_133 rfl 0 rfl ?_
  refine sm_getI (pc := 134) dX8_sum_134 fr_RX8_222 (by decide) rfl (fun v134 => ?_)
  refine sm_icmp_ge 156 (pc := 137) dX8_sum_137 rfl ?_ ?_
  · refine sm_lload_n (pc := 156) dX8_sum_156 rfl 1 rfl ?_
    exact sm_retL (pc := 157) dX8_sum_157
  refine sm_lload_n (pc := 140) dX8_sum_140 rfl 1 rfl ?_
  refine sm_aload_n (pc := 141) dX8_sum_141 rfl 0 rfl ?_
  refine sm_getR (pc := 142) dX8_sum_142 fr_RX8_26 (by decide) rfl (fun v142 => ?_)
  refine sm_iload (pc := 145) dX8_sum_145 2 rfl ?_
  refine sm_aJ (pc := 147) dX8_sum_147 (fun v147 => ?_)
  refine sm_ladd (pc := 148) dX8_sum_148 ?_
  refine sm_bdJ (fun v149 => ?_)
  refine sm_lstore_n (pc := 149) (lv' := [(3, .long v149), (0, .ref x0), (5, .int x5)]) dX8_sum_149 rfl (by decide) rfl ?_
  refine sm_iinc (pc := 150) (x5 + 1) (lv' := [(5, .int (x5 + 1)), (3, .long v149), (0, .ref x0)]) dX8_sum_150 2 rfl rfl (by decide) rfl ?_
  refine sm_goto 131 (pc := 153) dX8_sum_153 rfl ?_
  refine sm_sub [2, 1, 0] rfl ?_
  exact h131 x0 v149 (x5 + 1) S
set_option maxRecDepth 20000 in
set_option maxHeartbeats 4000000 in
theorem sL_X8_sum_131 (Z : ZT)  (n : Nat) : ∀ (x0 : Nat) (x3 : Int64) (x5 : Int32)  (S : St), Sim eL Z rm_X8_sum RX8 cX8_sum 6 (some .long) 131 [(0, .ref x0), (3, .long x3), (5, .int x5)] [] S (L_X8_sum_131  n x0 x3 x5 S) := by
  induction n with
  | zero => intros; exact sm_none
  | succ n ih => intro x0 x3 x5 S; exact sB_X8_sum_131 Z  (L_X8_sum_131  n) ih x0 x3 x5 S
set_option maxRecDepth 20000 in
set_option maxHeartbeats 4000000 in
theorem s_X8_sum (Z : ZT) (c : Nat) (a1 : Int32) (a2 : Int32) (S : St) : Sim eL Z rm_X8_sum RX8 cX8_sum 6 (some .long) 0 [(0, .ref c), (1, .int a1), (2, .int a2)] [] S (F_X8_sum c a1 a2 S) := by
  unfold F_X8_sum
  refine sm_aload_n (pc := 0) dX8_sum_0 rfl 0 rfl ?_
  refine sm_iload_n (pc := 1) dX8_sum_1 rfl 1 rfl ?_
  refine sm_callVI (pc := 2) [.int a1] (fun lq rq Sq hq => m_X8_isLoan Z lq c a1 S hq) dX8_sum_2 mi_X8_isLoan ml_RX8_197 ⟨Nat.le_of_ble_eq_true rfl, Nat.le_of_ble_eq_true rfl, rfl, rfl⟩ rfl (by decide) rfl (Nat.le_of_ble_eq_true rfl) rfl (fun r2 S2 => ?_)
  refine sm_if_eq 20 (pc := 5) dX8_sum_5 rfl ?_ ?_
  · refine sm_sub [] rfl ?_
    exact sJ_X8_sum_20 Z  S2
  refine sm_iload_n (pc := 8) dX8_sum_8 rfl 2 rfl ?_
  refine sm_i2l (pc := 9) dX8_sum_9 ?_
  refine sm_lconst (pc := 10) (0 : Int64) dX8_sum_10 (by decide) ?_
  refine sm_ldc2 (pc := 11) (8 : Int64) dX8_sum_11 kc_RX8_169 ?_
  refine sm_callSI (pc := 14) [.long (Int32.toInt64 a2), .long (0 : Int64), .long (8 : Int64)] (fun lq rq Sq hq => m_X8_in Z lq (Int32.toInt64 a2) (0 : Int64) (8 : Int64) S2 hq) dX8_sum_14 mi_X8_in ml_RX8_85 ⟨Nat.le_of_ble_eq_true rfl, Nat.le_of_ble_eq_true rfl, rfl, rfl⟩ rfl (Nat.le_of_ble_eq_true rfl) rfl (fun r14 S14 => ?_)
  refine sm_if_ne 24 (pc := 17) dX8_sum_17 rfl ?_ ?_
  · refine sm_iload_n (pc := 24) dX8_sum_24 rfl 2 rfl ?_
    refine sm_tswk (pc := 25) 121 [72, 79, 87, 95, 101, 101, 101, 113] [0, 1, 2, 3, 4, 5, 6, 7] dX8_sum_25 rfl (by decide) (by decide) (by decide) rfl ⟨?_, ?_, ?_, ?_, ?_, ?_, ?_, ?_, trivial⟩ ?_
    · refine sm_aload_n (pc := 72) dX8_sum_72 rfl 0 rfl ?_
      refine sm_iload_n (pc := 73) dX8_sum_73 rfl 1 rfl ?_
      refine sm_iconst (pc := 74) (0 : Int32) dX8_sum_74 (by decide) ?_
      refine sm_callVL (pc := 75) [.int a1, .int (0 : Int32)] (fun lq rq Sq hq => m_X8_at Z lq c a1 (0 : Int32) S14 hq) dX8_sum_75 mi_X8_at ml_RX8_136 ⟨Nat.le_of_ble_eq_true rfl, Nat.le_of_ble_eq_true rfl, rfl, rfl⟩ rfl (by decide) rfl (Nat.le_of_ble_eq_true rfl) rfl (fun r75 S75 => ?_)
      exact sm_retL (pc := 78) dX8_sum_78
    · refine sm_aload_n (pc := 79) dX8_sum_79 rfl 0 rfl ?_
      refine sm_iload_n (pc := 80) dX8_sum_80 rfl 1 rfl ?_
      refine sm_bipush (pc := 81) (8 : Int32) dX8_sum_81 (by decide) ?_
      refine sm_callVL (pc := 83) [.int a1, .int (8 : Int32)] (fun lq rq Sq hq => m_X8_at Z lq c a1 (8 : Int32) S14 hq) dX8_sum_83 mi_X8_at ml_RX8_136 ⟨Nat.le_of_ble_eq_true rfl, Nat.le_of_ble_eq_true rfl, rfl, rfl⟩ rfl (by decide) rfl (Nat.le_of_ble_eq_true rfl) rfl (fun r83 S83 => ?_)
      exact sm_retL (pc := 86) dX8_sum_86
    · refine sm_aload_n (pc := 87) dX8_sum_87 rfl 0 rfl ?_
      refine sm_iload_n (pc := 88) dX8_sum_88 rfl 1 rfl ?_
      refine sm_bipush (pc := 89) (9 : Int32) dX8_sum_89 (by decide) ?_
      refine sm_callVL (pc := 91) [.int a1, .int (9 : Int32)] (fun lq rq Sq hq => m_X8_at Z lq c a1 (9 : Int32) S14 hq) dX8_sum_91 mi_X8_at ml_RX8_136 ⟨Nat.le_of_ble_eq_true rfl, Nat.le_of_ble_eq_true rfl, rfl, rfl⟩ rfl (by decide) rfl (Nat.le_of_ble_eq_true rfl) rfl (fun r91 S91 => ?_)
      exact sm_retL (pc := 94) dX8_sum_94
    · refine sm_aload_n (pc := 95) dX8_sum_95 rfl 0 rfl ?_
      refine sm_iload_n (pc := 96) dX8_sum_96 rfl 1 rfl ?_
      refine sm_callVL (pc := 97) [.int a1] (fun lq rq Sq hq => m_X8_owed Z lq c a1 S14 hq) dX8_sum_97 mi_X8_owed ml_RX8_215 ⟨Nat.le_of_ble_eq_true rfl, Nat.le_of_ble_eq_true rfl, rfl, rfl⟩ rfl (by decide) rfl (Nat.le_of_ble_eq_true rfl) rfl (fun r97 S97 => ?_)
      exact sm_retL (pc := 100) dX8_sum_100
    · refine sm_sub [0, 1, 2] rfl ?_
      exact sJ_X8_sum_101 Z  c a1 a2 S14
    · refine sm_sub [0, 1, 2] rfl ?_
      exact sJ_X8_sum_101 Z  c a1 a2 S14
    · refine sm_sub [0, 1, 2] rfl ?_
      exact sJ_X8_sum_101 Z  c a1 a2 S14
    · refine sm_aload_n (pc := 113) dX8_sum_113 rfl 0 rfl ?_
      refine sm_iload_n (pc := 114) dX8_sum_114 rfl 1 rfl ?_
      refine sm_bipush (pc := 115) (13 : Int32) dX8_sum_115 (by decide) ?_
      refine sm_callVL (pc := 117) [.int a1, .int (13 : Int32)] (fun lq rq Sq hq => m_X8_at Z lq c a1 (13 : Int32) S14 hq) dX8_sum_117 mi_X8_at ml_RX8_136 ⟨Nat.le_of_ble_eq_true rfl, Nat.le_of_ble_eq_true rfl, rfl, rfl⟩ rfl (by decide) rfl (Nat.le_of_ble_eq_true rfl) rfl (fun r117 S117 => ?_)
      exact sm_retL (pc := 120) dX8_sum_120
    refine sm_aload_n (pc := 121) dX8_sum_121 rfl 0 rfl ?_
    refine sm_iload_n (pc := 122) dX8_sum_122 rfl 1 rfl ?_
    refine sm_callVV (pc := 123) [.int a1] (fun lq rq Sq hq => m_X8_comes Z lq c a1 S14 hq) dX8_sum_123 mi_X8_comes ml_RX8_219 ⟨Nat.le_of_ble_eq_true rfl, Nat.le_of_ble_eq_true rfl, rfl, rfl⟩ rfl (by decide) rfl (Nat.le_of_ble_eq_true rfl) rfl (fun _ S123 => ?_)
    refine sm_lconst (pc := 126) (0 : Int64) dX8_sum_126 (by decide) ?_
    refine sm_lstore_n (pc := 127) (lv' := [(3, .long (0 : Int64)), (0, .ref c), (1, .int a1), (2, .int a2)]) dX8_sum_127 rfl (by decide) rfl ?_
    refine sm_iconst (pc := 128) (0 : Int32) dX8_sum_128 (by decide) ?_
    refine sm_istore (pc := 129) (lv' := [(5, .int (0 : Int32)), (3, .long (0 : Int64)), (0, .ref c), (1, .int a1), (2, .int a2)]) dX8_sum_129 (by decide) rfl ?_
    refine sm_sub [2, 1, 0] rfl ?_
    exact sL_X8_sum_131 Z  6000 c (0 : Int64) (0 : Int32) S123
  refine sm_sub [] rfl ?_
  exact sJ_X8_sum_20 Z  S14
set_option maxRecDepth 20000 in
set_option maxHeartbeats 4000000 in
theorem m_X8_sum (Z : ZT) (l : Launch) (c : Nat) (a1 : Int32) (a2 : Int32) (S : St) {r : Int64} {S' : St} (h : F_X8_sum c a1 a2 S = some (r, S')) : MetX Z l yX8_sum cX8_sum 6 (some .long) rm_X8_sum [.ref c, .int a1, .int a2] S (eL r) S' := Sim.met (by decide +kernel) rfl (Nat.le_of_ble_eq_true rfl) (s_X8_sum Z c a1 a2 S) l h
set_option maxRecDepth 20000 in
set_option maxHeartbeats 4000000 in
theorem sJ_X8_bill_24 (Z : ZT)    (S : St) : Sim eL Z rm_X8_bill RX8 cX8_bill 4 (some .long) 24 [] [] S (J_X8_bill_24  S) := by
  unfold J_X8_bill_24
  refine sm_ldc2 (pc := 24) (-1 : Int64) dX8_bill_24 kc_RX8_134 ?_
  exact sm_retL (pc := 27) dX8_bill_27
set_option maxRecDepth 20000 in
set_option maxHeartbeats 4000000 in
theorem sJ_X8_bill_60 (Z : ZT)   (t0 : Int64) (S : St) : Sim eL Z rm_X8_bill RX8 cX8_bill 4 (some .long) 60 [] [.long t0] S (J_X8_bill_60  t0 S) := by
  unfold J_X8_bill_60
  exact sm_retL (pc := 60) dX8_bill_60
set_option maxRecDepth 20000 in
set_option maxHeartbeats 4000000 in
theorem s_X8_bill (Z : ZT) (c : Nat) (a1 : Int32) (a2 : Int32) (a3 : Int32) (S : St) : Sim eL Z rm_X8_bill RX8 cX8_bill 4 (some .long) 0 [(0, .ref c), (1, .int a1), (2, .int a2), (3, .int a3)] [] S (F_X8_bill c a1 a2 a3 S) := by
  unfold F_X8_bill
  refine sm_aload_n (pc := 0) dX8_bill_0 rfl 0 rfl ?_
  refine sm_iload_n (pc := 1) dX8_bill_1 rfl 1 rfl ?_
  refine sm_callVI (pc := 2) [.int a1] (fun lq rq Sq hq => m_X8_isLoan Z lq c a1 S hq) dX8_bill_2 mi_X8_isLoan ml_RX8_197 ⟨Nat.le_of_ble_eq_true rfl, Nat.le_of_ble_eq_true rfl, rfl, rfl⟩ rfl (by decide) rfl (Nat.le_of_ble_eq_true rfl) rfl (fun r2 S2 => ?_)
  refine sm_if_eq 24 (pc := 5) dX8_bill_5 rfl ?_ ?_
  · refine sm_sub [] rfl ?_
    exact sJ_X8_bill_24 Z  S2
  refine sm_iload_n (pc := 8) dX8_bill_8 rfl 2 rfl ?_
  refine sm_if_lt 24 (pc := 9) dX8_bill_9 rfl ?_ ?_
  · refine sm_sub [] rfl ?_
    exact sJ_X8_bill_24 Z  S2
  refine sm_iload_n (pc := 12) dX8_bill_12 rfl 3 rfl ?_
  refine sm_i2l (pc := 13) dX8_bill_13 ?_
  refine sm_lconst (pc := 14) (0 : Int64) dX8_bill_14 (by decide) ?_
  refine sm_ldc2 (pc := 15) (3 : Int64) dX8_bill_15 kc_RX8_92 ?_
  refine sm_callSI (pc := 18) [.long (Int32.toInt64 a3), .long (0 : Int64), .long (3 : Int64)] (fun lq rq Sq hq => m_X8_in Z lq (Int32.toInt64 a3) (0 : Int64) (3 : Int64) S2 hq) dX8_bill_18 mi_X8_in ml_RX8_85 ⟨Nat.le_of_ble_eq_true rfl, Nat.le_of_ble_eq_true rfl, rfl, rfl⟩ rfl (Nat.le_of_ble_eq_true rfl) rfl (fun r18 S18 => ?_)
  refine sm_if_ne 28 (pc := 21) dX8_bill_21 rfl ?_ ?_
  · refine sm_iload_n (pc := 28) dX8_bill_28 rfl 2 rfl ?_
    refine sm_i2l (pc := 29) dX8_bill_29 ?_
    refine sm_aload_n (pc := 30) dX8_bill_30 rfl 0 rfl ?_
    refine sm_iload_n (pc := 31) dX8_bill_31 rfl 1 rfl ?_
    refine sm_bipush (pc := 32) (14 : Int32) dX8_bill_32 (by decide) ?_
    refine sm_callVL (pc := 34) [.int a1, .int (14 : Int32)] (fun lq rq Sq hq => m_X8_at Z lq c a1 (14 : Int32) S18 hq) dX8_bill_34 mi_X8_at ml_RX8_136 ⟨Nat.le_of_ble_eq_true rfl, Nat.le_of_ble_eq_true rfl, rfl, rfl⟩ rfl (by decide) rfl (Nat.le_of_ble_eq_true rfl) rfl (fun r34 S34 => ?_)
    refine sm_lcmp_ge 57 (pc := 37) dX8_bill_37 dX8_bill_38 rfl ?_ ?_
    · refine sm_ldc2 (pc := 57) (-2 : Int64) dX8_bill_57 kc_RX8_226 ?_
      refine sm_sub [] rfl ?_
      exact sJ_X8_bill_60 Z  (-2 : Int64) S34
    refine sm_aload_n (pc := 41) dX8_bill_41 rfl 0 rfl ?_
    refine sm_iload_n (pc := 42) dX8_bill_42 rfl 1 rfl ?_
    refine sm_bipush (pc := 43) (15 : Int32) dX8_bill_43 (by decide) ?_
    refine sm_iconst (pc := 45) (5 : Int32) dX8_bill_45 (by decide) ?_
    refine sm_iload_n (pc := 46) dX8_bill_46 rfl 2 rfl ?_
    refine sm_imul (pc := 47) dX8_bill_47 ?_
    refine sm_iadd (pc := 48) dX8_bill_48 ?_
    refine sm_iload_n (pc := 49) dX8_bill_49 rfl 3 rfl ?_
    refine sm_iadd (pc := 50) dX8_bill_50 ?_
    refine sm_callVL (pc := 51) [.int a1, .int (((15 : Int32) + ((5 : Int32) * a2)) + a3)] (fun lq rq Sq hq => m_X8_at Z lq c a1 (((15 : Int32) + ((5 : Int32) * a2)) + a3) S34 hq) dX8_bill_51 mi_X8_at ml_RX8_136 ⟨Nat.le_of_ble_eq_true rfl, Nat.le_of_ble_eq_true rfl, rfl, rfl⟩ rfl (by decide) rfl (Nat.le_of_ble_eq_true rfl) rfl (fun r51 S51 => ?_)
    refine sm_goto 60 (pc := 54) dX8_bill_54 rfl ?_
    refine sm_sub [] rfl ?_
    exact sJ_X8_bill_60 Z  r51 S51
  refine sm_sub [] rfl ?_
  exact sJ_X8_bill_24 Z  S18
set_option maxRecDepth 20000 in
set_option maxHeartbeats 4000000 in
theorem m_X8_bill (Z : ZT) (l : Launch) (c : Nat) (a1 : Int32) (a2 : Int32) (a3 : Int32) (S : St) {r : Int64} {S' : St} (h : F_X8_bill c a1 a2 a3 S = some (r, S')) : MetX Z l yX8_bill cX8_bill 4 (some .long) rm_X8_bill [.ref c, .int a1, .int a2, .int a3] S (eL r) S' := Sim.met (by decide +kernel) rfl (Nat.le_of_ble_eq_true rfl) (s_X8_bill Z c a1 a2 a3 S) l h
set_option maxRecDepth 20000 in
set_option maxHeartbeats 4000000 in
theorem s_X8_flow (Z : ZT) (c : Nat) (a1 : Int32) (S : St) : Sim eL Z rm_X8_flow RX8 cX8_flow 2 (some .long) 0 [(0, .ref c), (1, .int a1)] [] S (F_X8_flow c a1 S) := by
  unfold F_X8_flow
  refine sm_aload_n (pc := 0) dX8_flow_0 rfl 0 rfl ?_
  refine sm_getR (pc := 1) dX8_flow_1 fr_RX8_26 (by decide) rfl (fun v1 => ?_)
  refine sm_iload_n (pc := 4) dX8_flow_4 rfl 1 rfl ?_
  refine sm_aJ (pc := 5) dX8_flow_5 (fun v5 => ?_)
  refine sm_aload_n (pc := 6) dX8_flow_6 rfl 0 rfl ?_
  refine sm_getR (pc := 7) dX8_flow_7 fr_RX8_29 (by decide) rfl (fun v7 => ?_)
  refine sm_iload_n (pc := 10) dX8_flow_10 rfl 1 rfl ?_
  refine sm_aJ (pc := 11) dX8_flow_11 (fun v11 => ?_)
  refine sm_ladd (pc := 12) dX8_flow_12 ?_
  exact sm_retL (pc := 13) dX8_flow_13
set_option maxRecDepth 20000 in
set_option maxHeartbeats 4000000 in
theorem m_X8_flow (Z : ZT) (l : Launch) (c : Nat) (a1 : Int32) (S : St) {r : Int64} {S' : St} (h : F_X8_flow c a1 S = some (r, S')) : MetX Z l yX8_flow cX8_flow 2 (some .long) rm_X8_flow [.ref c, .int a1] S (eL r) S' := Sim.met (by decide +kernel) rfl (Nat.le_of_ble_eq_true rfl) (s_X8_flow Z c a1 S) l h
set_option maxRecDepth 20000 in
set_option maxHeartbeats 4000000 in
theorem sJ_X8_nth_32 (Z : ZT) (rec4 : (Nat → Int32 → Int32 → Int32 → St → Option (Int32 × St))) (h4 : ∀ (x0 : Nat) (x1 : Int32) (x2 : Int32) (x3 : Int32)  (S : St), Sim eI Z rm_X8_nth RX8 cX8_nth 4 (some .int) 4 [(0, .ref x0), (1, .int x1), (2, .int x2), (3, .int x3)] [] S (rec4 x0 x1 x2 x3 S)) (x0 : Nat) (x1 : Int32) (x2 : Int32) (x3 : Int32)  (S : St) : Sim eI Z rm_X8_nth RX8 cX8_nth 4 (some .int) 32 [(0, .ref x0), (1, .int x1), (2, .int x2), (3, .int x3)] [] S (J_X8_nth_32 rec4 x0 x1 x2 x3 S) := by
  unfold J_X8_nth_32
  refine sm_iinc (pc := 32) (x3 + 1) (lv' := [(3, .int (x3 + 1)), (0, .ref x0), (1, .int x1), (2, .int x2)]) dX8_nth_32 3 rfl rfl (by decide) rfl ?_
  refine sm_goto 4 (pc := 35) dX8_nth_35 rfl ?_
  refine sm_sub [1, 2, 3, 0] rfl ?_
  exact h4 x0 x1 x2 (x3 + 1) S
set_option maxRecDepth 20000 in
set_option maxHeartbeats 4000000 in
theorem sB_X8_nth_4 (Z : ZT) (rec4 : (Nat → Int32 → Int32 → Int32 → St → Option (Int32 × St))) (h4 : ∀ (x0 : Nat) (x1 : Int32) (x2 : Int32) (x3 : Int32)  (S : St), Sim eI Z rm_X8_nth RX8 cX8_nth 4 (some .int) 4 [(0, .ref x0), (1, .int x1), (2, .int x2), (3, .int x3)] [] S (rec4 x0 x1 x2 x3 S)) (x0 : Nat) (x1 : Int32) (x2 : Int32) (x3 : Int32)  (S : St) : Sim eI Z rm_X8_nth RX8 cX8_nth 4 (some .int) 4 [(0, .ref x0), (1, .int x1), (2, .int x2), (3, .int x3)] [] S (B_X8_nth_4 rec4 x0 x1 x2 x3 S) := by
  unfold B_X8_nth_4
  refine sm_iload_n (pc := 4) dX8_nth_4 rfl 3 rfl ?_
  refine sm_aload_n (pc := 5) dX8_nth_5 rfl 0 rfl ?_
  refine sm_getI (pc := 6) dX8_nth_6 fr_RX8_222 (by decide) rfl (fun v6 => ?_)
  refine sm_icmp_ge 38 (pc := 9) dX8_nth_9 rfl ?_ ?_
  · refine sm_bipush (pc := 38) (-2 : Int32) dX8_nth_38 (by decide) ?_
    exact sm_retI (pc := 40) dX8_nth_40
  refine sm_aload_n (pc := 12) dX8_nth_12 rfl 0 rfl ?_
  refine sm_iload_n (pc := 13) dX8_nth_13 rfl 3 rfl ?_
  refine sm_callVL (pc := 14) [.int x3] (fun lq rq Sq hq => m_X8_flow Z lq x0 x3 S hq) dX8_nth_14 mi_X8_flow ml_RX8_228 ⟨Nat.le_of_ble_eq_true rfl, Nat.le_of_ble_eq_true rfl, rfl, rfl⟩ rfl (by decide) rfl (Nat.le_of_ble_eq_true rfl) rfl (fun r14 S14 => ?_)
  refine sm_lconst (pc := 17) (0 : Int64) dX8_nth_17 (by decide) ?_
  refine sm_lcmp_le 32 (pc := 18) dX8_nth_18 dX8_nth_19 rfl ?_ ?_
  · refine sm_sub [0, 1, 2, 3] rfl ?_
    exact sJ_X8_nth_32 Z rec4 h4 x0 x1 x2 x3 S14
  refine sm_iload_n (pc := 22) dX8_nth_22 rfl 2 rfl ?_
  refine sm_iload_n (pc := 23) dX8_nth_23 rfl 1 rfl ?_
  refine sm_icmp_ne 29 (pc := 24) dX8_nth_24 rfl ?_ ?_
  · refine sm_iinc (pc := 29) (x2 + 1) (lv' := [(2, .int (x2 + 1)), (0, .ref x0), (1, .int x1), (3, .int x3)]) dX8_nth_29 2 rfl rfl (by decide) rfl ?_
    refine sm_sub [1, 2, 0, 3] rfl ?_
    exact sJ_X8_nth_32 Z rec4 h4 x0 x1 (x2 + 1) x3 S14
  refine sm_iload_n (pc := 27) dX8_nth_27 rfl 3 rfl ?_
  exact sm_retI (pc := 28) dX8_nth_28
set_option maxRecDepth 20000 in
set_option maxHeartbeats 4000000 in
theorem sL_X8_nth_4 (Z : ZT)  (n : Nat) : ∀ (x0 : Nat) (x1 : Int32) (x2 : Int32) (x3 : Int32)  (S : St), Sim eI Z rm_X8_nth RX8 cX8_nth 4 (some .int) 4 [(0, .ref x0), (1, .int x1), (2, .int x2), (3, .int x3)] [] S (L_X8_nth_4  n x0 x1 x2 x3 S) := by
  induction n with
  | zero => intros; exact sm_none
  | succ n ih => intro x0 x1 x2 x3 S; exact sB_X8_nth_4 Z  (L_X8_nth_4  n) ih x0 x1 x2 x3 S
set_option maxRecDepth 20000 in
set_option maxHeartbeats 4000000 in
theorem s_X8_nth (Z : ZT) (c : Nat) (a1 : Int32) (S : St) : Sim eI Z rm_X8_nth RX8 cX8_nth 4 (some .int) 0 [(0, .ref c), (1, .int a1)] [] S (F_X8_nth c a1 S) := by
  unfold F_X8_nth
  refine sm_iconst (pc := 0) (0 : Int32) dX8_nth_0 (by decide) ?_
  refine sm_istore_n (pc := 1) (lv' := [(2, .int (0 : Int32)), (0, .ref c), (1, .int a1)]) dX8_nth_1 rfl (by decide) rfl ?_
  refine sm_iconst (pc := 2) (0 : Int32) dX8_nth_2 (by decide) ?_
  refine sm_istore_n (pc := 3) (lv' := [(3, .int (0 : Int32)), (2, .int (0 : Int32)), (0, .ref c), (1, .int a1)]) dX8_nth_3 rfl (by decide) rfl ?_
  refine sm_sub [2, 3, 1, 0] rfl ?_
  exact sL_X8_nth_4 Z  6000 c a1 (0 : Int32) (0 : Int32) S
set_option maxRecDepth 20000 in
set_option maxHeartbeats 4000000 in
theorem m_X8_nth (Z : ZT) (l : Launch) (c : Nat) (a1 : Int32) (S : St) {r : Int32} {S' : St} (h : F_X8_nth c a1 S = some (r, S')) : MetX Z l yX8_nth cX8_nth 4 (some .int) rm_X8_nth [.ref c, .int a1] S (eI r) S' := Sim.met (by decide +kernel) rfl (Nat.le_of_ble_eq_true rfl) (s_X8_nth Z c a1 S) l h
