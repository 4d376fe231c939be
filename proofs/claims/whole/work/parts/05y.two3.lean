theorem RLn.fc {S : St} {G i : Nat} {f f' : Nat → Nat} {q : Nat → Int64} {bs : List Bl} (h : RLn S G i f q bs) (hq : ∀ w, w < 10 → f' w = f w) : RLn S G i f' q bs := ⟨fun w hw => by rw [hq w hw]; exact h.1 w hw, h.2.1, h.2.2.1, h.2.2.2⟩
theorem neg_rem {a : Int32} (h : a < 0) : a - a / 100 * 100 < nI 1 := by
  rw [Int32.lt_iff_toInt_lt, Int32.toInt_zero] at h
  have h1 := Int32.le_toInt a
  have hq : (a / 100).toInt = a.toInt.tdiv 100 := by
    rw [Int32.toInt_div_of_ne_right _ _ (by decide)]
    rfl
  have hd := Int.mul_tdiv_add_tmod a.toInt 100
  have hr1 : a.toInt.tmod 100 ≤ 0 := by
    have := Int.tmod_nonneg (a := -a.toInt) 100 (by omega)
    rw [Int.neg_tmod] at this
    omega
  have hr2 : -100 < a.toInt.tmod 100 := by
    have := Int.tmod_lt_of_pos (-a.toInt) (b := 100) (by decide)
    rw [Int.neg_tmod] at this
    omega
  have hm : (a / 100 * 100).toInt = a.toInt.tdiv 100 * 100 := by
    rw [Int32.toInt_mul, hq]
    show Int.bmod (a.toInt.tdiv 100 * 100) (2 ^ 32) = _
    exact Int.bmod_eq_of_le (by omega) (by omega)
  rw [Int32.lt_iff_toInt_lt, Int32.toInt_sub, hm, nI_toInt (by omega), Int.bmod_eq_of_le (by omega) (by omega)]
  omega
section TW3
variable {S : St} {B : Bk} {i : Nat}
theorem ln_loop (hi : i < 8) (x1 : Int64) (x3 x4 x5 : Int32) : ∀ (j n x : Nat) (S : St), j < n → x + j = 315 → ∃ S', L_X8_loan_158 n 202 x1 x3 x4 x5 (nI i) (nI x) S = L_X8_loan_158 1 202 x1 x3 x4 x5 (nI i) (nI 315) S' ∧ (∀ y, x ≤ y → y < 315 → S'.2 203 (315 * i + y) = 0) ∧ (∀ y, y < x → S'.2 203 (315 * i + y) = S.2 203 (315 * i + y)) ∧ offG S S' i
  | _, 0, _, _, h, _ => absurd h (Nat.not_lt_zero _)
  | 0, n + 1, x, S, _, hx => by
    have e : x = 315 := by omega
    subst e
    refine ⟨S, ?_, fun y h1 h2 => by omega, fun _ _ => rfl, offG.rf S i⟩
    show B_X8_loan_158 _ _ _ _ _ _ _ _ _ = B_X8_loan_158 _ _ _ _ _ _ _ _ _
    unfold B_X8_loan_158
    rw [if_pos (show (315 : Int32) ≤ nI 315 from Int32.le_refl _), if_pos (show (315 : Int32) ≤ nI 315 from Int32.le_refl _)]
  | j + 1, n + 1, x, S, hn, hx => by
    obtain ⟨S', r1, r2, r3, r4⟩ := ln_loop hi x1 x3 x4 x5 j n (x + 1) (setL S 203 (315 * i + x) 0) (by omega) (by omega)
    refine ⟨S', ?_, fun y h1 h2 => ?_, fun y hy => ?_, ((offG.rf S i).L (by omega) _).tr r4⟩
    · show B_X8_loan_158 _ _ _ _ _ _ _ _ _ = _
      unfold B_X8_loan_158
      rw [if_neg (by rw [fa_lit 315, nI_leI (by omega) (by omega)]; omega), mgk, sets_e hi (by omega), cl_some, show nI x + 1 = nI (x + 1) from nI_1 x]
      exact r1
    · by_cases e : y = x
      · subst e
        rw [r3 y (by omega), setL_s]
      · exact r2 y (by omega) h2
    · rw [r3 y (by omega), setL_k (by omega)]
theorem ln_fin (hi : i < 8) {D lent rate cn kd md n : Nat} (h1 : 1 ≤ lent) (h2 : lent ≤ 100000000) (h3 : rate ≤ 5000) (h4 : cn ≤ 3) (h5 : kd ≤ 2) (h6 : md ≤ 1) (h7 : 1 ≤ n) (h8 : n ≤ 60) (hD9 : D ≤ 36524) (hmo : mo D + n < 1200) (hz : ∀ y, y < 315 → S.2 203 (315 * i + y) = 0) (hD : S.2 203 2521 = lN D) : ∃ S', L_X8_loan_158 1 202 (lN lent) (nI rate) (nI cn) (nI (1000 * kd + 100 * md + n)) (nI i) (nI 315) S = some (nI i, S') ∧ RLn S' 203 i (relv (new0 D lent rate cn kd md n)).1 (relv (new0 D lent rate cn kd md n)).2.1 [] ∧ offG S S' i := by
  have e1 : nI (1000 * kd + 100 * md + n) / (1000 : Int32) = nI kd := by
    rw [fa_lit 1000, pk_div (by omega) (by omega) (by omega)]
    congr 1
    omega
  have e2 : nI (1000 * kd + 100 * md + n) / (100 : Int32) = nI (10 * kd + md) := by
    rw [fa_lit 100, pk_div (by omega) (by omega) (by omega)]
    congr 1
    omega
  have e3 : nI (10 * kd + md) - nI (10 * kd + md) / (10 : Int32) * (10 : Int32) = nI md := by
    rw [fa_lit 10, pk_div (by omega) (by omega) (by omega), pk_mul, pk_sub (by omega)]
    congr 1
    omega
  have e4 : nI (1000 * kd + 100 * md + n) - nI (10 * kd + md) * (100 : Int32) = nI n := by
    rw [fa_lit 100, pk_mul, pk_sub (by omega)]
    congr 1
    omega
  have hS0 : RLn S 203 i (fun _ => 0) (fun _ => 0) [] := ⟨fun w hw => hz w (by omega), fun w hw => by rw [Nat.add_assoc]; exact hz (10 + w) (by omega), hz 14 (by omega), fun j b hj => absurd hj (by simp)⟩
  have hn0 : ([] : List Bl).length ≤ 60 := by simp
  show ∃ S', B_X8_loan_158 _ _ _ _ _ _ _ _ _ = _ ∧ _
  unfold B_X8_loan_158
  rw [if_pos (show (315 : Int32) ≤ nI 315 from Int32.le_refl _), e1, e2, e3, e4, wide_nI (by omega), wide_nI (by omega), wide_nI (by omega), wide_nI (by omega), wide_nI (by omega)]
  rw [mgk, show (0 : Int32) = nI 0 from rfl, sets_e hi (by omega), cl_some, mgk, show (1 : Int32) = nI 1 from rfl, sets_e hi (by omega), cl_some, mgk, show (2 : Int32) = nI 2 from rfl, sets_e hi (by omega), cl_some, mgk, show (3 : Int32) = nI 3 from rfl, sets_e hi (by omega), cl_some, mgk, show (5 : Int32) = nI 5 from rfl, sets_e hi (by omega), cl_some, mgk, show (4 : Int32) = nI 4 from rfl, sets_e hi (by omega), cl_some, mR0, fa_lit 2521, g_at _ (by omega)]
  have o6 := ((((((offG.rf S i).L (w := 0) (by omega) (lN lent)).L (w := 1) (by omega) (lN rate)).L (w := 2) (by omega) (lN cn)).L (w := 3) (by omega) (lN kd)).L (w := 5) (by omega) (lN md)).L (w := 4) (by omega) (lN n)
  have s6 := rl_num (rl_num (rl_num (rl_num (rl_num (rl_num hS0 hn0 (w := 0) (by omega) lent) hn0 (w := 1) (by omega) rate) hn0 (w := 2) (by omega) cn) hn0 (w := 3) (by omega) kd) hn0 (w := 5) (by omega) md) hn0 (w := 4) (by omega) n
  generalize setL (setL (setL (setL (setL (setL S 203 (315 * i + 0) (lN lent)) 203 (315 * i + 1) (lN rate)) 203 (315 * i + 2) (lN cn)) 203 (315 * i + 3) (lN kd)) 203 (315 * i + 5) (lN md)) 203 (315 * i + 4) (lN n) = S6 at o6 s6 ⊢
  have hD6 : S6.2 203 2521 = lN D := by
    rw [o6.2.2 2521 (by omega)]
    exact hD
  rw [hD6, mgk, show (6 : Int32) = nI 6 from rfl, sets_e hi (by omega), cl_some, mgk, show (8 : Int32) = nI 8 from rfl, sets_e hi (by omega), cl_some, mgk]
  have s8 := rl_num (rl_num s6 hn0 (w := 6) (by omega) D) hn0 (w := 8) (by omega) lent
  have o8 := (o6.L (w := 6) (by omega) (lN D)).L (w := 8) (by omega) (lN lent)
  generalize setL (setL S6 203 (315 * i + 6) (lN D)) 203 (315 * i + 8) (lN lent) = S8 at s8 o8 ⊢
  have s9 : RLn S8 203 i (new0 D lent rate cn kd md n).1 (new0 D lent rate cn kd md n).2.1 [] := by
    refine s8.fc (fun w hw => ?_)
    unfold new0 up
    have : w = 0 ∨ w = 1 ∨ w = 2 ∨ w = 3 ∨ w = 4 ∨ w = 5 ∨ w = 6 ∨ w = 7 ∨ w = 8 ∨ w = 9 := by omega
    rcases this with rfl | rfl | rfl | rfl | rfl | rfl | rfl | rfl | rfl | rfl <;> rfl
  obtain ⟨S', v1, v2, v3⟩ := level_rl hi s9 (new0_gd h1 h2 h3 h4 h5 h6 h7 h8 hD9 hmo).gs hn0
  rw [v1, cl_some]
  exact ⟨S', rfl, v2, o8.tr v3⟩
/-- a LOAN of good terms, in the reference -/
theorem loan_ref (hG : GB B) (hS : RB S 203 B) {lent rate cn kd md n : Nat} (h1 : 1 ≤ lent) (h2 : lent ≤ 100000000) (h3 : rate ≤ 5000) (h4 : cn ≤ 3) (h5 : kd ≤ 2) (h6 : md ≤ 1) (h7 : 1 ≤ n) (h8 : n ≤ 60) : (¬ mo B.1 + n < 1200 → J_X8_loan_87 202 (lN lent) (nI rate) (nI cn) (nI (1000 * kd + 100 * md + n)) 1 S = some (-5, S)) ∧ (mo B.1 + n < 1200 → B.2.2.2.1 = 8 → J_X8_loan_87 202 (lN lent) (nI rate) (nI cn) (nI (1000 * kd + 100 * md + n)) 1 S = some (-3, S)) ∧ (mo B.1 + n < 1200 → B.2.2.2.1 < 8 → ∃ S', J_X8_loan_87 202 (lN lent) (nI rate) (nI cn) (nI (1000 * kd + 100 * md + n)) 1 S = some (nI B.2.2.2.1, S') ∧ RB S' 203 (B.1, B.2.1, B.2.2.1, B.2.2.2.1 + 1, up B.2.2.2.2 B.2.2.2.1 (relv (new0 B.1 lent rate cn kd md n))) ∧ offH S S') := by
  have g8 := hG.2.2.2.1
  have e4 : nI (1000 * kd + 100 * md + n) - nI (1000 * kd + 100 * md + n) / (100 : Int32) * (100 : Int32) = nI n := by
    rw [fa_lit 100, pk_div (by omega) (by omega) (by omega), pk_mul, pk_sub (by omega)]
    congr 1
    omega
  unfold J_X8_loan_87
  rw [if_pos (show ¬ (1 : Int32) = 0 by decide), e4, mR0, fa_lit 2521, g_at _ (by omega), hS.2.1, lN_i32, monthsBehind_e _ _ hG.1 (by omega), cl_some, mR0, fa_lit 2520, g_at _ (by omega), hS.1]
  refine ⟨fun c => ?_, fun c c8 => ?_, fun c c8 => ?_⟩
  · rw [if_neg c, if_neg (by rw [fa_lit 36524, nI_leI (by omega) (by omega)]; omega)]
  · rw [if_pos c, if_pos (by rw [fa_lit 36524, nI_leI (by have := pe_le c; omega) (by omega)]; exact pe_le c), c8, if_neg (fun z => z rfl)]
  · rw [if_pos c, if_pos (by rw [fa_lit 36524, nI_leI (by have := pe_le c; omega) (by omega)]; exact pe_le c), if_pos (show ¬ lN B.2.2.2.1 = 8 from fun z => by rw [show (8 : Int64) = lN 8 from rfl, lN_eq63 (by omega) (by omega)] at z; omega), mR0, g_at _ (by omega), hS.1, g_set _ (by omega), lN_i32, bd_e, show (1 : Int64) = lN 1 from rfl, lN_add]
    have o1 := (offH.rf S).L 2520 (lN (B.2.2.2.1 + 1))
    have k1 : ∀ j, j ≠ 2520 → (setL S 203 2520 (lN (B.2.2.2.1 + 1))).2 203 j = S.2 203 j := fun j hj => setL_k hj
    have k0 : (setL S 203 2520 (lN (B.2.2.2.1 + 1))).2 203 2520 = lN (B.2.2.2.1 + 1) := setL_s
    generalize setL S 203 2520 (lN (B.2.2.2.1 + 1)) = S1 at o1 k1 k0 ⊢
    obtain ⟨S2, r1, r2, r3, r4⟩ := ln_loop c8 (lN lent) (nI rate) (nI cn) (nI (1000 * kd + 100 * md + n)) 315 6000 0 S1 (by omega) (by omega)
    obtain ⟨S3, u1, u2, u3⟩ := ln_fin (S := S2) c8 h1 h2 h3 h4 h5 h6 h7 h8 hG.1 c (fun y hy => r2 y (by omega) hy) (by rw [r4.2.2 2521 (by omega), k1 2521 (by omega)]; exact hS.2.1)
    have o3 := r4.tr u3
    refine ⟨S3, r1.trans u1, ?_, (o1.tr r4.H).tr u3.H⟩
    obtain ⟨q0, q1, q2, q3, q4⟩ := hS
    refine ⟨by rw [o3.2.2 _ (by omega)]; exact k0, by rw [o3.2.2 _ (by omega), k1 _ (by omega)]; exact q1, by rw [o3.2.2 _ (by omega), k1 _ (by omega)]; exact q2, by rw [o3.2.2 _ (by omega), k1 _ (by omega)]; exact q3, fun j hj => ?_⟩
    have hj' : j < B.2.2.2.1 + 1 := hj
    show RLn S3 203 j (up B.2.2.2.2 B.2.2.2.1 (relv (new0 B.1 lent rate cn kd md n)) j).1 (up B.2.2.2.2 B.2.2.2.1 (relv (new0 B.1 lent rate cn kd md n)) j).2.1 (bls (up B.2.2.2.2 B.2.2.2.1 (relv (new0 B.1 lent rate cn kd md n)) j))
    by_cases e : j = B.2.2.2.1
    · rw [e, up_s, bls_relv]
      exact u2
    · rw [up_n _ _ e]
      exact (q4 j (by omega)).off (bls_len (hG.2.2.2.2 j (by omega)).1).2 (fun x h1 h2 => by rw [o3.2.2 x (by omega), k1 x (by omega)])
/-- a new LOAN in both -/
theorem lend_two (hG : GX B) {lent rate cn kd md n : Nat} (h1 : 1 ≤ lent) (h2 : lent ≤ 100000000) (h3 : rate ≤ 5000) (h4 : cn ≤ 3) (h5 : kd ≤ 2) (h6 : md ≤ 1) (h7 : 1 ≤ n) (h8 : n ≤ 60) : TwoB (F_X1_lend 1 (lN lent) (nI rate) (nI cn) (nI kd) (nI md) (nI n)) (J_X8_loan_87 202 (lN lent) (nI rate) (nI cn) (nI (1000 * kd + 100 * md + n)) 1) B := by
  have gb := hG.1
  have g8 := gb.2.2.2.1
  by_cases c : mo B.1 + n < 1200
  · by_cases c8 : B.2.2.2.1 = 8
    · refine TwoB.no hG (-3) (fun S hS => ?_) (fun S hS => ?_)
      · rcases lend_ok b1 gb hS h1 h2 h3 h4 h5 h6 h7 h8 with z | z | z
        · exact absurd c z.1
        · exact z.2.2
        · omega
      · exact (loan_ref gb hS h1 h2 h3 h4 h5 h6 h7 h8).2.1 c c8
    · have gn := new0_gd (d := B.1) h1 h2 h3 h4 h5 h6 h7 h8 gb.1 c
      refine ⟨nI B.2.2.2.1, (B.1, B.2.1, B.2.2.1, B.2.2.2.1 + 1, up B.2.2.2.2 B.2.2.2.1 (relv (new0 B.1 lent rate cn kd md n))), ⟨⟨gb.1, gb.2.1, gb.2.2.1, by show B.2.2.2.1 + 1 ≤ 8; omega, fun j hj => ?_⟩, fun j hj => ?_⟩, Nat.le_succ _, fun S hS => ?_, fun S hS => ?_⟩
      · have hj' : j < B.2.2.2.1 + 1 := hj
        show GD (up B.2.2.2.2 B.2.2.2.1 (relv (new0 B.1 lent rate cn kd md n)) j) ∧ DY B.1 (up B.2.2.2.2 B.2.2.2.1 (relv (new0 B.1 lent rate cn kd md n)) j)
        by_cases e : j = B.2.2.2.1
        · rw [e, up_s]
          refine ⟨relv_gd gn, ?_⟩
          unfold DY
          rw [relv_n _ (by omega), relv_n _ (by omega), relv_n _ (by omega)]
          show B.1 ≤ B.1 ∧ pe B.1 0 ≤ B.1 ∧ (0 < n → B.1 < pe B.1 (0 + 1))
          have := pe_lt B.1 0
          rw [pe_0] at this ⊢
          exact ⟨Nat.le_refl _, Nat.le_refl _, fun _ => this⟩
        · rw [up_n _ _ e]
          exact gb.2.2.2.2 j (by omega)
      · have hj' : j < B.2.2.2.1 + 1 := hj
        show NF (up B.2.2.2.2 B.2.2.2.1 (relv (new0 B.1 lent rate cn kd md n)) j)
        by_cases e : j = B.2.2.2.1
        · rw [e, up_s]
          unfold NF
          rw [relv_2]
          exact fun _ _ => rfl
        · rw [up_n _ _ e]
          exact hG.2 j (by omega)
      · rcases lend_ok b1 gb hS h1 h2 h3 h4 h5 h6 h7 h8 with z | z | z
        · exact absurd c z.1
        · exact absurd z.2.1 c8
        · obtain ⟨_, _, S', u1, u2, u3⟩ := z
          exact ⟨S', u1, u2, u3.K⟩
      · obtain ⟨S', u1, u2, u3⟩ := (loan_ref gb hS h1 h2 h3 h4 h5 h6 h7 h8).2.2 c (by omega)
        exact ⟨S', u1, u2, u3.Q⟩
  · refine TwoB.no hG (-5) (fun S hS => ?_) (fun S hS => ?_)
    · rcases lend_ok b1 gb hS h1 h2 h3 h4 h5 h6 h7 h8 with z | z | z
      · exact z.2
      · exact absurd z.1 c
      · exact absurd z.1 c
    · exact (loan_ref gb hS h1 h2 h3 h4 h5 h6 h7 h8).1 c
theorem lend_arg (a1 : Int64) (a2 a3 a4 a5 a6 : Int32) : (∀ b S, F_X1_lend b a1 a2 a3 a4 a5 a6 S = some (-1, S)) ∨ ∃ lent rate cn kd md n : Nat, a1 = lN lent ∧ a2 = nI rate ∧ a3 = nI cn ∧ a4 = nI kd ∧ a5 = nI md ∧ a6 = nI n ∧ 1 ≤ lent ∧ lent ≤ 100000000 ∧ rate ≤ 5000 ∧ cn ≤ 3 ∧ kd ≤ 2 ∧ md ≤ 1 ∧ 1 ≤ n ∧ n ≤ 60 := by
  rcases betweenL a1 1 100000000 (by omega) (by omega) with c | ⟨c1, lent, e1, l1, l2⟩
  · left
    intro b S
    unfold F_X1_lend J_X1_lend_31
    rw [fa_litL 100000000, show (1 : Int64) = lN 1 from rfl]
    rcases c with c | c
    · rw [if_pos c]
    · by_cases c0 : a1 < lN 1
      · rw [if_pos c0]
      · rw [if_neg c0, if_pos c]
  · have n1 : ¬ a1 < lN 1 := fun z => c1 (Or.inl z)
    have n2 : ¬ lN 100000000 < a1 := fun z => c1 (Or.inr z)
    have pr1 : ∀ b S, F_X1_lend b a1 a2 a3 a4 a5 a6 S = cl (F_X7_isRate a2 S) fun r15 S15 => if r15 = 0 then (J_X1_lend_31 S15) else (cl (F_X7_isWithin a3 (0 : Int32) (3 : Int32) S15) fun r25 S25 => if ¬ r25 = 0 then (cl (F_X7_isWithin a4 (0 : Int32) (2 : Int32) S25) fun r37 S37 => if r37 = 0 then (J_X1_lend_64 S37) else (cl (F_X7_isWithin a5 (0 : Int32) (1 : Int32) S37) fun r47 S47 => if r47 = 0 then (J_X1_lend_64 S47) else (cl (F_X7_isWithin a6 (1 : Int32) (60 : Int32) S47) fun r58 S58 => if ¬ r58 = 0 then (F_X1_lend b a1 a2 a3 a4 a5 a6 S) else (J_X1_lend_64 S58)))) else (J_X1_lend_31 S25)) := by
      intro b S
      rw [isRate_e, cl_some]
      by_cases r : a2 < nI 0 ∨ nI 5000 < a2
      · rw [if_pos r, if_pos rfl]
        unfold F_X1_lend
        rw [fa_litL 100000000, show (1 : Int64) = lN 1 from rfl, if_neg n1, if_neg n2, isRate_e, if_pos r, cl_some, if_pos rfl]
      · rw [if_neg r, if_neg (by decide), within_e, cl_some]
        by_cases r2 : a3 < 0 ∨ 3 < a3
        · rw [if_pos r2, if_neg (fun z => z rfl)]
          unfold F_X1_lend
          rw [fa_litL 100000000, show (1 : Int64) = lN 1 from rfl, if_neg n1, if_neg n2, isRate_e, if_neg r, cl_some, if_neg (by decide), within_e, if_pos r2, cl_some, if_neg (fun z => z rfl)]
        · rw [if_neg r2, if_pos (by decide), within_e, cl_some]
          by_cases r3 : a4 < 0 ∨ 2 < a4
          · rw [if_pos r3, if_pos rfl]
            unfold F_X1_lend
            rw [fa_litL 100000000, show (1 : Int64) = lN 1 from rfl, if_neg n1, if_neg n2, isRate_e, if_neg r, cl_some, if_neg (by decide), within_e, if_neg r2, cl_some, if_pos (by decide), within_e, if_pos r3, cl_some, if_pos rfl]
          · rw [if_neg r3, if_neg (by decide), within_e, cl_some]
            by_cases r4 : a5 < 0 ∨ 1 < a5
            · rw [if_pos r4, if_pos rfl]
              unfold F_X1_lend
              rw [fa_litL 100000000, show (1 : Int64) = lN 1 from rfl, if_neg n1, if_neg n2, isRate_e, if_neg r, cl_some, if_neg (by decide), within_e, if_neg r2, cl_some, if_pos (by decide), within_e, if_neg r3, cl_some, if_neg (by decide), within_e, if_pos r4, cl_some, if_pos rfl]
            · rw [if_neg r4, if_neg (by decide), within_e, cl_some]
              by_cases r5 : a6 < 1 ∨ 60 < a6
              · rw [if_pos r5, if_neg (fun z => z rfl)]
                unfold F_X1_lend
                rw [fa_litL 100000000, show (1 : Int64) = lN 1 from rfl, if_neg n1, if_neg n2, isRate_e, if_neg r, cl_some, if_neg (by decide), within_e, if_neg r2, cl_some, if_pos (by decide), within_e, if_neg r3, cl_some, if_neg (by decide), within_e, if_neg r4, cl_some, if_neg (by decide), within_e, if_pos r5, cl_some, if_neg (fun z => z rfl)]
              · rw [if_neg r5, if_pos (by decide)]
    rcases between a2 0 5000 (by omega) (by omega) with c | ⟨d2, rate, e2, _, l3⟩
    · left
      intro b S
      rw [pr1, isRate_e, if_pos c, cl_some, if_pos rfl]
      rfl
    · rcases between a3 0 3 (by omega) (by omega) with c | ⟨d3, cn, e3, _, l4⟩
      · left
        intro b S
        rw [pr1, isRate_e, if_neg d2, cl_some, if_neg (by decide), within_e, if_pos (show a3 < 0 ∨ 3 < a3 from c), cl_some, if_neg (fun z => z rfl)]
        rfl
      · rcases between a4 0 2 (by omega) (by omega) with c | ⟨d4, kd, e4, _, l5⟩
        · left
          intro b S
          rw [pr1, isRate_e, if_neg d2, cl_some, if_neg (by decide), within_e, if_neg (show ¬ (a3 < 0 ∨ 3 < a3) from d3), cl_some, if_pos (by decide), within_e, if_pos (show a4 < 0 ∨ 2 < a4 from c), cl_some, if_pos rfl]
          rfl
        · rcases between a5 0 1 (by omega) (by omega) with c | ⟨d5, md, e5, _, l6⟩
          · left
            intro b S
            rw [pr1, isRate_e, if_neg d2, cl_some, if_neg (by decide), within_e, if_neg (show ¬ (a3 < 0 ∨ 3 < a3) from d3), cl_some, if_pos (by decide), within_e, if_neg (show ¬ (a4 < 0 ∨ 2 < a4) from d4), cl_some, if_neg (by decide), within_e, if_pos (show a5 < 0 ∨ 1 < a5 from c), cl_some, if_pos rfl]
            rfl
          · rcases between a6 1 60 (by omega) (by omega) with c | ⟨d6, n, e6, l7, l8⟩
            · left
              intro b S
              rw [pr1, isRate_e, if_neg d2, cl_some, if_neg (by decide), within_e, if_neg (show ¬ (a3 < 0 ∨ 3 < a3) from d3), cl_some, if_pos (by decide), within_e, if_neg (show ¬ (a4 < 0 ∨ 2 < a4) from d4), cl_some, if_neg (by decide), within_e, if_neg (show ¬ (a5 < 0 ∨ 1 < a5) from d5), cl_some, if_neg (by decide), within_e, if_pos (show a6 < 1 ∨ 60 < a6 from c), cl_some, if_neg (fun z => z rfl)]
              rfl
            · right
              exact ⟨lent, rate, cn, kd, md, n, e1, e2, e3, e4, e5, e6, l1, l2, l3, l4, l5, l6, l7, l8⟩
end TW3
