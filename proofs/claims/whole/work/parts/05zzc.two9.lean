/-! VALUE, YIELD, NEAR, DURATION -/
theorem wv_cg (l : Ln) {r r' : UInt64} (h : FP.dadd FP.dconst1 r = FP.dadd FP.dconst1 r') (c : Nat) : ∀ j x, wv l r c j x = wv l r' c j x
  | 0, _ => rfl
  | j + 1, x => by
    show (dq (FP.dadd x (FP.l2d (lN (ff l j) * (if c = 0 then 1 else lN (j + 1))))) fun a => dq (FP.dadd FP.dconst1 r) fun b => dq (FP.ddiv a b) fun d => wv l r c j d) = (dq (FP.dadd x (FP.l2d (lN (ff l j) * (if c = 0 then 1 else lN (j + 1))))) fun a => dq (FP.dadd FP.dconst1 r') fun b => dq (FP.ddiv a b) fun d => wv l r' c j d)
    rw [h]
    congr 1
    funext a
    congr 1
    funext b
    congr 1
    funext d
    exact wv_cg l h c j d
/-- the class's rate and the reference's are one -/
theorem rate_two (a : Int64) (h : a = -9223372036854775808 ∨ ∃ n, n ≤ 4621819117588971520 ∧ a = lN n) : ∃ r : UInt64, (∀ S, F_X0_toDouble a S = some (r, S)) ∧ Pw (FP.dadd FP.dconst1 r) 1074 1078 ∧ FP.dadd FP.dconst1 (Int64.toUInt64 a) = FP.dadd FP.dconst1 r := by
  rcases h with rfl | ⟨n, hn, rfl⟩
  · refine ⟨0, toD_m, Zw_rate (a := 52) (Or.inl rfl), by decide +kernel⟩
  · have S0 : St := (fun _ _ => 0, fun _ _ => 0)
    obtain ⟨c, q, e1, e2⟩ := (toD_e hn S0).2
    exact ⟨_, fun S => (toD_e hn S).1, rate_1 e1 e2, rfl⟩
section TW9
variable {B : Bk}
theorem t_value (hG : GX B) (a : Int32) (b : Int64) (hb : vn_snl2d b = false) : TwoB (F_X7_value 0 a b) (F_X8_value 202 a b) B := by
  have g8 := hG.1.2.2.2.1
  rcases loan_or a B.2.2.2.1 with h | ⟨i, hi, rfl⟩
  · refine TwoB.no hG 0 (fun S hS => ?_) (fun S hS => ?_)
    · unfold F_X7_value J_X7_value_18
      rw [z0, bgk b1, has_no b1 hS g8 h, cl_some, if_pos rfl]
    · unfold F_X8_value J_X8_value_22
      rw [if_pos hb, bd_e, mgk, isLoan_no hS g8 h, cl_some, if_pos rfl]
  · have hi8 : i < 8 := by omega
    have gd := hG.1.2.2.2.2 i hi
    have hc := LC_book b1 hi8
    rcases rate_or b with ⟨r0, r1, r2⟩ | ⟨r1, r2⟩
    · obtain ⟨r, w1, w2, w3⟩ := rate_two b r0
      obtain ⟨y, y1, y2⟩ := wv_ok gd.1 w2 0
      refine ⟨UInt64.toInt64 y, B, hG, Nat.le_refl _, fun S hS => ?_, fun S hS => ?_⟩
      · obtain ⟨S1, u1, u2, u3⟩ := follow_e hc (by omega) gd.1 (hS.2.2.2.2 i hi)
        refine ⟨S1, ?_, hS.F g8 u3, u3.K⟩
        unfold F_X7_value
        rw [z0, bgk b1, has_yes b1 hS g8 hi, cl_some, if_neg (by decide), r1, cl_some, if_pos (by decide), z5, z0, br4 b1, baR b1 hi8, pgk, u1, cl_some, z5, w1, cl_some, pgk, worthC gd.1 u2, y1]
        show (cl (some (y, S1)) fun r44 S44 => cl (F_X0_ofDouble r44 S44) fun r47 S47 => some (r47, S47)) = _
        rw [cl_some, ofDouble_Z y2 (by omega), cl_some]
      · obtain ⟨S1, u1, u2, u3⟩ := comes_e hi8 gd.1 (hS.2.2.2.2 i hi)
        refine ⟨S1, ?_, hS.C u3, u3.Q⟩
        unfold F_X8_value
        rw [if_pos hb, bd_e, mgk, isLoan_yes hS g8 hi, cl_some, if_neg (by decide), r2, cl_some, if_pos (by decide), mgk, u1, cl_some, mgk, valueR gd.1 u2, wv_cg _ w3, y1]
        show (cl (some (y, S1)) fun r33 S33 => cl (F_Jxe99ae_doubleToLongBits_ccdee r33 S33) fun r36 S36 => some (r36, S36)) = _
        rw [cl_some, longBits_e y2.nan, cl_some]
    · refine TwoB.no hG 0 (fun S hS => ?_) (fun S hS => ?_)
      · unfold F_X7_value J_X7_value_18
        rw [z0, bgk b1, has_yes b1 hS g8 hi, cl_some, if_neg (by decide), r1, cl_some, if_neg (fun z => z rfl)]
      · unfold F_X8_value J_X8_value_22
        rw [if_pos hb, bd_e, mgk, isLoan_yes hS g8 hi, cl_some, if_neg (by decide), r2, cl_some, if_neg (fun z => z rfl)]
theorem t_duration (hG : GX B) (a : Int32) (b : Int64) (hb : vn_snl2d b = false) : TwoB (F_X7_duration 0 a b) (F_X8_duration 202 a b) B := by
  have g8 := hG.1.2.2.2.1
  rcases loan_or a B.2.2.2.1 with h | ⟨i, hi, rfl⟩
  · refine TwoB.no hG 0 (fun S hS => ?_) (fun S hS => ?_)
    · unfold F_X7_duration J_X7_duration_18
      rw [z0, bgk b1, has_no b1 hS g8 h, cl_some, if_pos rfl]
    · unfold F_X8_duration J_X8_duration_22
      rw [if_pos hb, bd_e, mgk, isLoan_no hS g8 h, cl_some, if_pos rfl]
  · have hi8 : i < 8 := by omega
    have gd := hG.1.2.2.2.2 i hi
    have hc := LC_book b1 hi8
    rcases rate_or b with ⟨r0, r1, r2⟩ | ⟨r1, r2⟩
    · obtain ⟨r, w1, w2, w3⟩ := rate_two b r0
      obtain ⟨y, y1, y2⟩ := wv_ok gd.1 w2 0
      obtain ⟨v, v1, v2⟩ := wv_ok gd.1 w2 1
      have f7 : ∀ S, CB S 1 B → ∃ S1, CB S1 1 B ∧ offK S S1 ∧ PC S1 (B.2.2.2.2 i) ∧ F_X7_duration 0 (nI i) b S = if dx y FP.dconst0 .l ≤ 0 then some (0, S1) else dq (FP.ddiv v y) fun v71 => cl (F_X0_ofDouble v71 S1) fun r72 S72 => some (r72, S72) := by
        intro S hS
        obtain ⟨S1, u1, u2, u3⟩ := follow_e hc (by omega) gd.1 (hS.2.2.2.2 i hi)
        refine ⟨S1, hS.F g8 u3, u3.K, u2, ?_⟩
        unfold F_X7_duration J_X7_duration_79
        rw [z0, bgk b1, has_yes b1 hS g8 hi, cl_some, if_neg (by decide), r1, cl_some, if_pos (by decide), z5, z0, br4 b1, baR b1 hi8, pgk, u1, cl_some, w1, cl_some, z5, pgk, worthC gd.1 u2, y1]
        show (cl (some (y, S1)) fun r48 S48 => if dx r48 FP.dconst0 .l ≤ 0 then some ((0 : Int64), S48) else gR 5 5 0 fun v61 => gk v61 3 <| cl (F_X5_worthByNumber v61 r S48) fun r66 S66 => dq (FP.ddiv r66 r48) fun v71 => cl (F_X0_ofDouble v71 S66) fun r72 S72 => some (r72, S72)) = _
        rw [cl_some, z5, pgk, numC gd.1 u2, v1]
        rfl
      have f8 : ∀ S, RB S 203 B → ∃ S1, RB S1 203 B ∧ offQ S S1 ∧ F_X8_duration 202 (nI i) b S = if ¬ dx y FP.dconst0 .l = 0 then dq (FP.ddiv v y) fun v58 => J_X8_duration_59 v58 S1 else J_X8_duration_59 FP.dconst0 S1 := by
        intro S hS
        obtain ⟨S1, u1, u2, u3⟩ := comes_e hi8 gd.1 (hS.2.2.2.2 i hi)
        refine ⟨S1, hS.C u3, u3.Q, ?_⟩
        unfold F_X8_duration
        rw [if_pos hb, bd_e, mgk, isLoan_yes hS g8 hi, cl_some, if_neg (by decide), r2, cl_some, if_pos (by decide), mgk, u1, cl_some, mgk, valueR gd.1 u2, wv_cg _ w3, y1]
        show (cl (some (y, S1)) fun r33 S33 => if ¬ dx r33 FP.dconst0 .l = 0 then (gk 202 6 <| cl (F_X8_valueOf 202 (Int64.toUInt64 b) (1 : Int32) S33) fun r53 S53 => dq (FP.ddiv r53 r33) fun v58 => J_X8_duration_59 v58 S53) else (J_X8_duration_59 FP.dconst0 S33)) = _
        rw [cl_some, mgk, numR gd.1 u2, wv_cg _ w3, v1]
        rfl
      rcases y2 with y0 | y2
      · subst y0
        have d0 : dx 0 FP.dconst0 .l = 0 := by decide +kernel
        refine ⟨0, B, hG, Nat.le_refl _, fun S hS => ?_, fun S hS => ?_⟩
        · obtain ⟨S1, u1, u2, u3, u4⟩ := f7 S hS
          refine ⟨S1, ?_, u1, u2⟩
          rw [u4, d0, if_pos (by decide)]
        · obtain ⟨S1, u1, u2, u3⟩ := f8 S hS
          refine ⟨S1, ?_, u1, u2⟩
          unfold J_X8_duration_59 at u3
          rw [u3, d0, if_neg (fun z => z rfl), longBits_e (show FP.Core.val64 FP.dconst0 ≠ .nan by decide +kernel), cl_some]
          rfl
      · have hd := div_Z (l := 734) (h := 1414) v2 y2 (by omega) (by omega) (by omega) (by omega)
        obtain ⟨m, q, e, _⟩ := y2.norm (by omega)
        have dp : dx y FP.dconst0 .l = 1 := gt_zero e (by omega)
        refine ⟨UInt64.toInt64 (FP.ddiv v y), B, hG, Nat.le_refl _, fun S hS => ?_, fun S hS => ?_⟩
        · obtain ⟨S1, u1, u2, u3, u4⟩ := f7 S hS
          refine ⟨S1, ?_, u1, u2⟩
          rw [u4, dp, if_neg (by decide), dq_ok hd.nan, ofDouble_Z hd (by omega), cl_some]
        · obtain ⟨S1, u1, u2, u3⟩ := f8 S hS
          refine ⟨S1, ?_, u1, u2⟩
          unfold J_X8_duration_59 at u3
          rw [u3, dp, if_pos (by decide), dq_ok hd.nan, longBits_e hd.nan, cl_some]
    · refine TwoB.no hG 0 (fun S hS => ?_) (fun S hS => ?_)
      · unfold F_X7_duration J_X7_duration_18
        rw [z0, bgk b1, has_yes b1 hS g8 hi, cl_some, if_neg (by decide), r1, cl_some, if_neg (fun z => z rfl)]
      · unfold F_X8_duration J_X8_duration_22
        rw [if_pos hb, bd_e, mgk, isLoan_yes hS g8 hi, cl_some, if_neg (by decide), r2, cl_some, if_neg (fun z => z rfl)]
theorem t_yieldOf (hG : GX B) (a : Int32) (b : Int64) : TwoB (F_X7_yieldOf 0 a b) (F_X8_yieldOf 202 a b) B := by
  have g8 := hG.1.2.2.2.1
  rcases loan_or a B.2.2.2.1 with h | ⟨i, hi, rfl⟩
  · refine TwoB.no hG (-1) (fun S hS => ?_) (fun S hS => ?_)
    · unfold F_X7_yieldOf J_X7_yieldOf_17
      rw [z0, bgk b1, has_no b1 hS g8 h, cl_some, if_pos rfl]
    · unfold F_X8_yieldOf J_X8_yieldOf_14
      rw [mgk, isLoan_no hS g8 h, cl_some, if_pos rfl]
  · have hi8 : i < 8 := by omega
    have gd := hG.1.2.2.2.2 i hi
    have hc := LC_book b1 hi8
    by_cases c : (1 : Int64) ≤ b
    · obtain ⟨y, y1, y2⟩ := yv_ok gd.1 (FP.l2d b)
      refine ⟨UInt64.toInt64 y, B, hG, Nat.le_refl _, fun S hS => ?_, fun S hS => ?_⟩
      · obtain ⟨S1, u1, u2, u3⟩ := follow_e hc (by omega) gd.1 (hS.2.2.2.2 i hi)
        refine ⟨S1, ?_, hS.F g8 u3, u3.K⟩
        unfold F_X7_yieldOf
        rw [z0, bgk b1, has_yes b1 hS g8 hi, cl_some, if_neg (by decide), if_pos c, z5, z0, br4 b1, baR b1 hi8, pgk, u1, cl_some, z5, pgk, yieldC gd.1 u2, y1]
        show (cl (some (y, S1)) fun r44 S44 => cl (F_X0_ofDouble r44 S44) fun r47 S47 => some (r47, S47)) = _
        rw [cl_some, ofDouble_Z y2 (by omega), cl_some]
      · obtain ⟨S1, u1, u2, u3⟩ := comes_e hi8 gd.1 (hS.2.2.2.2 i hi)
        refine ⟨S1, ?_, hS.C u3, u3.Q⟩
        unfold F_X8_yieldOf
        rw [mgk, isLoan_yes hS g8 hi, cl_some, if_neg (by decide), if_pos c, mgk, u1, cl_some, mgk, yieldR gd.1 u2, y1]
        show (cl (some (y, S1)) fun r33 S33 => cl (F_Jxe99ae_doubleToLongBits_ccdee r33 S33) fun r36 S36 => some (r36, S36)) = _
        rw [cl_some, longBits_e y2.nan, cl_some]
    · refine TwoB.no hG (-1) (fun S hS => ?_) (fun S hS => ?_)
      · unfold F_X7_yieldOf J_X7_yieldOf_17
        rw [z0, bgk b1, has_yes b1 hS g8 hi, cl_some, if_neg (by decide), if_neg c]
      · unfold F_X8_yieldOf J_X8_yieldOf_14
        rw [mgk, isLoan_yes hS g8 hi, cl_some, if_neg (by decide), if_neg c]
theorem t_near (hG : GX B) (a : Int32) (b : Int64) : TwoB (F_X7_near 0 a b) (F_X8_near 202 a b) B := by
  have g8 := hG.1.2.2.2.1
  rcases loan_or a B.2.2.2.1 with h | ⟨i, hi, rfl⟩
  · refine TwoB.no hG (-1) (fun S hS => ?_) (fun S hS => ?_)
    · unfold F_X7_near J_X7_near_17
      rw [z0, bgk b1, has_no b1 hS g8 h, cl_some, if_pos rfl]
    · unfold F_X8_near J_X8_near_14
      rw [mgk, isLoan_no hS g8 h, cl_some, if_pos rfl]
  · have hi8 : i < 8 := by omega
    have gd := hG.1.2.2.2.2 i hi
    have hc := LC_book b1 hi8
    have cq : ∀ (x : UInt32) (K : UInt32 → Option (Int32 × St)), (fq x fun v => cl (K v) fun r S => some (r, S)) = fq x K := by
      intro x K
      unfold fq
      split
      · show (cl (K x) fun r S => some (r, S)) = K x
        cases K x <;> rfl
      · rfl
    by_cases c : (1 : Int64) ≤ b
    · obtain ⟨y, y1, y2⟩ := yv_ok gd.1 (FP.l2d b)
      obtain ⟨v, v1, v2⟩ := near_e y2
      refine ⟨v, B, hG, Nat.le_refl _, fun S hS => ?_, fun S hS => ?_⟩
      · obtain ⟨S1, u1, u2, u3⟩ := follow_e hc (by omega) gd.1 (hS.2.2.2.2 i hi)
        refine ⟨S1, ?_, hS.F g8 u3, u3.K⟩
        unfold F_X7_near
        rw [z0, bgk b1, has_yes b1 hS g8 hi, cl_some, if_neg (by decide), if_pos c, z5, z0, br4 b1, baR b1 hi8, pgk, u1, cl_some, z5, pgk, yieldC gd.1 u2, y1]
        show (cl (some (y, S1)) fun r41 S41 => fq (FP.d2f r41) fun v44 => cl (F_X0_ofFloat v44 S41) fun r45 S45 => some (r45, S45)) = _
        rw [cl_some, cq, v1]
      · obtain ⟨S1, u1, u2, u3⟩ := comes_e hi8 gd.1 (hS.2.2.2.2 i hi)
        refine ⟨S1, ?_, hS.C u3, u3.Q⟩
        unfold F_X8_near
        rw [mgk, isLoan_yes hS g8 hi, cl_some, if_neg (by decide), if_pos c, mgk, u1, cl_some, mgk, yieldR gd.1 u2, y1]
        show (cl (some (y, S1)) fun r23 S23 => fq (FP.d2f r23) fun v26 => cl (F_Jxf58ca_floatToIntBits_5c35a v26 S23) fun r27 S27 => some (r27, S27)) = _
        rw [cl_some, cq, v2]
    · refine TwoB.no hG (-1) (fun S hS => ?_) (fun S hS => ?_)
      · unfold F_X7_near J_X7_near_17
        rw [z0, bgk b1, has_yes b1 hS g8 hi, cl_some, if_neg (by decide), if_neg c]
      · unfold F_X8_near J_X8_near_14
        rw [mgk, isLoan_yes hS g8 hi, cl_some, if_neg (by decide), if_neg c]
end TW9
theorem y_value (a : Int32) (b : Int64) (hb : vn_snl2d b = false) : Step (F_X7_value 0 a b) (F_X8_value 202 a b) := two_step (fun _ h => t_value h a b hb)
theorem y_duration (a : Int32) (b : Int64) (hb : vn_snl2d b = false) : Step (F_X7_duration 0 a b) (F_X8_duration 202 a b) := two_step (fun _ h => t_duration h a b hb)
theorem y_yieldOf (a : Int32) (b : Int64) : Step (F_X7_yieldOf 0 a b) (F_X8_yieldOf 202 a b) := two_step (fun _ h => t_yieldOf h a b)
theorem y_near (a : Int32) (b : Int64) : Step (F_X7_near 0 a b) (F_X8_near 202 a b) := two_step (fun _ h => t_near h a b)
